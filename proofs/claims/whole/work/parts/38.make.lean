section
theorem nd_of : ∀ l : List Nat, l.Nodup → va_nd l = true
  | [], _ => rfl
  | a :: l, h => by
    have h2 := List.nodup_cons.mp h
    simp only [va_nd, Bool.and_eq_true, decide_eq_true_eq]
    exact ⟨h2.1, nd_of l h2.2⟩
theorem nd_rg (a n : Nat) : va_nd (List.range' a n) = true := nd_of _ List.nodup_range'
theorem z_pre (a b : va_W) : (List.range a.length).map (fun i => (a ++ b)[i]?) = a.map some := by
  rw [← z_rng a]
  apply List.map_congr_left
  intro i hi
  exact List.getElem?_append_left (List.mem_range.mp hi)
theorem z_suf (a b : va_W) : (List.range' a.length b.length).map (fun i => (a ++ b)[i]?) = b.map some := by
  rw [← z_rng b, List.range'_eq_map_range, List.map_map]
  apply List.map_congr_left
  intro i hi
  show (a ++ b)[a.length + i]? = b[i]?
  rw [List.getElem?_append_right (Nat.le_add_right _ _), Nat.add_sub_cancel_left]
theorem z_dis1 (a n : Nat) : ∀ i ∈ List.range a, i ∉ List.range' a n := fun i hi h => by
  have h1 := List.mem_range.mp hi
  have h2 := (List.mem_range'_1.mp h).1
  omega
theorem z_dis2 (a n : Nat) : ∀ i ∈ List.range' a n, i ∉ List.range a := fun i hi h => by
  have h1 := List.mem_range.mp h
  have h2 := (List.mem_range'_1.mp hi).1
  omega
theorem z_dApp {A : Nat → Prop} {w w2 : va_W} {sz : Nat} (hD : va_D A w) (hlt : ∀ (k : Nat) (q : Nat × va_E), w[k]? = some q → q.1 < sz) (h2 : ∀ (k : Nat) (q : Nat × va_E), w2[k]? = some q → q.1 = sz + k) (hA : ∀ q, sz ≤ q → A q) : va_D A (w ++ w2) := by
  refine ⟨fun i j p q hi hj he => ?_, fun k q hk => ?_⟩
  · by_cases h1 : i < w.length <;> by_cases h3 : j < w.length
    · rw [List.getElem?_append_left h1] at hi
      rw [List.getElem?_append_left h3] at hj
      exact hD.1 i j p q hi hj he
    · rw [List.getElem?_append_left h1] at hi
      rw [List.getElem?_append_right (by omega)] at hj
      have := hlt i p hi
      have := h2 _ q hj
      omega
    · rw [List.getElem?_append_right (by omega)] at hi
      rw [List.getElem?_append_left h3] at hj
      have := hlt j q hj
      have := h2 _ p hi
      omega
    · rw [List.getElem?_append_right (by omega)] at hi
      rw [List.getElem?_append_right (by omega)] at hj
      have := h2 _ p hi
      have := h2 _ q hj
      omega
  · by_cases h1 : k < w.length
    · rw [List.getElem?_append_left h1] at hk
      exact hD.2 k q hk
    · rw [List.getElem?_append_right (by omega)] at hk
      exact hA _ (by rw [h2 _ q hk]; omega)
theorem arrV_cong (cA : ClassId) {n : Nat} {f g : Nat → Value} (h : ∀ j, j < n → f j = g j) : arrV cA n f = arrV cA n g := by
  unfold arrV
  congr 1
  apply Array.ext (by simp)
  intro i h1 h2
  simp at h1
  simp [h i h1]
section ZR7
variable {p : Program} {l : Launch} {e : Env} {R : Room} {s : State} {m : MethodId} {args : Array Value} {below : List Frame} {meth : Method} {c : Code} {D : va_G} {A : Nat → Prop} {nL cells slots : Nat} {Q : State → Prop}
variable {cc : ByteArray} {own : String} {tys : List (ClassId × FieldType)} {pc : Nat} {lv : List (Nat × Value)} {st : List Value} {w : va_W}
theorem Z.newO (hX : Zf p m c cc nL s args own D tys A) {C : String} {T : u_T} {N index : Nat} (ci : Nat) (ty0 : Nat → FieldType) {fs : List Value} (hd : decode cc pc = .ok (.new index, 3)) (hc : vwCl[ci]? = some (C, T, N)) (hin : ∀ x ∈ u_ws C T N, x ∈ lw_g) (hty : ∀ k, k < N → parseFieldDescriptor (T k).2.2.1 = some (ty0 k)) (hcl : Cond.classLink own index C ∈ lw_g) (hinst : Cond.instantiable C N ∈ lw_g) (hini : Cond.initialized C ∈ lw_g) (hfs : ∀ j, j < N → defaultValue (ty0 j) = vp_V fs j) (hcells : cells + 1 ≤ R.cells) (hslots : slots + N ≤ R.slots) (k : ∀ q : Nat, Z p l e R s m args below meth c D A nL (cells + 1) (slots + N) Q (pc + 3) lv (.ref q :: st) (w ++ [(q, .inr (ci, fs))])) : Z p l e R s m args below meth c D A nL cells slots Q pc lv st w := by
  intro H locs ls hP hD hS hv
  obtain ⟨hx, hb, hml, hown, hts, hK, hA, hN⟩ := id hX
  exact va_new hx hb hts hin ty0 hty hown (hts _ hcl) (hts _ hinst) (hts _ hini) hK hP hD hS hA hc hfs hcells hslots hd (fun q H1 hP1 hD1 hS1 => k q H1 locs ls hP1 hD1 hS1 hv)
theorem Z.initN (hX : Zf p m c cc nL s args own D tys A) {y : MethodName} {bytes : ByteArray} {maxL mc ms index b : Nat} {rm : Room} {rest : List Value} {wc wr : va_W} {post : va_W → Prop} {host : String} (hM : Ct l y bytes maxL none rm mc ms D tys [.ref b] wc (QV D tys post)) (hcode : Cond.code y bytes maxL none ∈ lw_g) (hlk : (own, index, y, host) ∈ nst) (hnm : y.name = "<init>") (hins : Cond.instanceMethod y ∈ lw_g) (hini : Cond.initialized y.cls ∈ lw_g) (hdd : y.cls ≠ "java/lang/invoke/MethodHandle" ∧ y.cls ≠ "java/lang/invoke/VarHandle" ∧ (parseMethodDescriptor y.desc).map (fun d => d.parameters.length) = some 0) (hR : rm.frames + 1 ≤ R.frames ∧ 8 + (maxL + 11) + rm.locals ≤ R.locals) (hcs : rm.cells = mc ∧ rm.slots = ms) (hroom : cells + mc ≤ R.cells ∧ slots + ms ≤ R.slots) (hcat : (rest.map fun v => v.category).sum ≤ 8) (hd : decode cc pc = .ok (.invokespecial index, 3)) (k : ∀ (w1 : va_W), post w1 → Z p l e R s m args below meth c D A nL (cells + mc) (slots + ms) Q (pc + 3) lv rest (wr ++ w1)) : Z p l e R s m args below meth c D A nL cells slots Q pc lv (.ref b :: rest) (wr ++ wc) := by
  intro H locs ls hP hD hS hv
  obtain ⟨hx, hb, hml, hown, hts, hK, hA, hN⟩ := id hX
  have hC := z_suf wr wc
  have hRr := z_pre wr wc
  have hPc := hP.sub _ (z_fm _ _ _ hC)
  have hDc := hD.sub _ (nd_rg _ _) hC
  have hFc := va_free (wc := wc) hD hS hA _ hC
  have hCB : va_CN R s args own index y host bytes maxL none (.code y bytes maxL none :: lw_g) rm mc ms 0 := va_cnB 0 hts (z_goodC hcode) rfl hcs.1 hcs.2 (hN.1 _ hlk) (hts _ hini) hdd hR
  refine va_callv (va_runIN (b := b) (As := []) (rest := rest) ⟨hx, hb, hml, hown, hts⟩ (hM H.size) ⟨hCB, hnm, hts _ hins⟩ ⟨fun a U g mk q => by obtain ⟨q0, q1, qP, qK, qD, qN⟩ := q; exact ⟨q0, q1, qP, va_K.moved (u := U) (U := U.calling g mk a) (Vm.Alike.refl U.vm) qK, qD, NW.same qN rfl⟩, fun U hU hW => ⟨rfl, by rw [hU], by rw [hU]; exact hPc, va_K.moved hW.alike hK, hDc.weaken (fun _ _ _ _ => trivial), hN.warm hW⟩⟩ rfl rfl hv.1 rfl (lv_room hcat) hd hroom) hS (fun q _ h => hFc q h) hFc (fun u t H1 locs1 ht hvm hw hB hz1 hk1 hS1 => ?_)
  obtain ⟨hP1, hK1, hD1⟩ := hB
  rw [ht] at hP1
  obtain ⟨hP2, hD2⟩ := va_join (wr := wr) (w1 := u) hP hD _ _ hC hRr (z_ndr _) (z_dis1 _ _) hk1 hFc hP1 hD1
  exact k u hw H1 locs1 ls hP2 hD2 hS1 hv
theorem Z.initP (hX : Zf p m c cc nL s args own D tys A) {y : MethodName} {bytes : ByteArray} {maxL mc ms index b : Nat} {rm : Room} {rest : List Value} {wc wr : va_W} {post : va_W → Prop} (hM : Ct l y bytes maxL none rm mc ms D tys [.ref b] wc (QV D tys post)) (hcode : Cond.code y bytes maxL none ∈ lw_g) (hlk : Cond.methodLink own index y ∈ lw_g) (hnm : y.name = "<init>") (hins : Cond.instanceMethod y ∈ lw_g) (hini : Cond.initialized y.cls ∈ lw_g) (hdd : y.cls ≠ "java/lang/invoke/MethodHandle" ∧ y.cls ≠ "java/lang/invoke/VarHandle" ∧ (parseMethodDescriptor y.desc).map (fun d => d.parameters.length) = some 0) (hR : rm.frames + 1 ≤ R.frames ∧ 8 + (maxL + 11) + rm.locals ≤ R.locals) (hcs : rm.cells = mc ∧ rm.slots = ms) (hroom : cells + mc ≤ R.cells ∧ slots + ms ≤ R.slots) (hcat : (rest.map fun v => v.category).sum ≤ 8) (hd : decode cc pc = .ok (.invokespecial index, 3)) (k : ∀ (w1 : va_W), post w1 → Z p l e R s m args below meth c D A nL (cells + mc) (slots + ms) Q (pc + 3) lv rest (wr ++ w1)) : Z p l e R s m args below meth c D A nL cells slots Q pc lv (.ref b :: rest) (wr ++ wc) := by
  intro H locs ls hP hD hS hv
  obtain ⟨hx, hb, hml, hown, hts, hK, hA, hN⟩ := id hX
  have hC := z_suf wr wc
  have hRr := z_pre wr wc
  have hPc := hP.sub _ (z_fm _ _ _ hC)
  have hDc := hD.sub _ (nd_rg _ _) hC
  have hFc := va_free (wc := wc) hD hS hA _ hC
  have hCB : CallB R s args own index y bytes maxL none (.code y bytes maxL none :: lw_g) rm mc ms 0 := callB_of 0 hts (z_goodC hcode) rfl hcs.1 hcs.2 (hts _ hini) (hts _ hlk) hdd hR
  refine va_callv (va_runI (b := b) (As := []) (rest := rest) ⟨hx, hb, hml, hown, hts⟩ (hM H.size) ⟨hCB, hnm, hts _ hins⟩ ⟨fun a U g mk q => by obtain ⟨q0, q1, qP, qK, qD, qN⟩ := q; exact ⟨q0, q1, qP, va_K.moved (u := U) (U := U.calling g mk a) (Vm.Alike.refl U.vm) qK, qD, NW.same qN rfl⟩, fun U hU hW => ⟨rfl, by rw [hU], by rw [hU]; exact hPc, va_K.moved hW.alike hK, hDc.weaken (fun _ _ _ _ => trivial), hN.warm hW⟩⟩ rfl rfl hv.1 rfl (lv_room hcat) hd hroom) hS (fun q _ h => hFc q h) hFc (fun u t H1 locs1 ht hvm hw hB hz1 hk1 hS1 => ?_)
  obtain ⟨hP1, hK1, hD1⟩ := hB
  rw [ht] at hP1
  obtain ⟨hP2, hD2⟩ := va_join (wr := wr) (w1 := u) hP hD _ _ hC hRr (z_ndr _) (z_dis1 _ _) hk1 hFc hP1 hD1
  exact k u hw H1 locs1 ls hP2 hD2 hS1 hv
theorem Z.anew (hX : Zf p m c cc nL s args own D tys A) (t0 : Nat) {cA : ClassId} {z : Int} {N index : Nat} (hd : decode cc pc = .ok (.anewarray index, 3)) (ht : tys[t0]? = some (cA, .object "EliminateLoci$Plane")) (hcl : Cond.classLink own index "EliminateLoci$Plane" ∈ lw_g) (hz : z = N) (hN0 : N ≤ 60000000) (hcells : cells + 1 ≤ R.cells) (hslots : slots + N ≤ R.slots) (k : ∀ q : Nat, Z p l e R s m args below meth c D A nL (cells + 1) (slots + N) Q (pc + 3) lv (.ref q :: st) (w ++ [(q, .inl (cA, N, .inr (.inr (.inr (.inr (fun _ => none))))))])) : Z p l e R s m args below meth c D A nL cells slots Q pc lv (.int (zI z) :: st) w := by
  intro H locs ls hP hD hS hv
  obtain ⟨hx, hb, hml, hown, hts, hK, hA, hN⟩ := id hX
  subst hz
  refine va_newq (N' := N) hx hb hown (hts _ hcl) hN.2.1 hK hP hD hS hA ?_ ?_ (by omega) hcells hslots hd (fun q cA' H1 hK1 hP1 hD1 hS1 => ?_)
  · intro q0
    have := (zI_lt (a := (N : Int)) (b := 0) ⟨by omega, by omega⟩ zR_0).mp q0
    omega
  · rw [zI_cl (by omega) (by omega)]; rfl
  · obtain ⟨-, -, -, -, -, h1⟩ := (hK1.2 tys.length (cA', .object "EliminateLoci$Plane") (by simp)).2
    obtain ⟨-, -, -, -, -, h2⟩ := (hK.2 t0 _ ht).2
    have h3 : cA' = cA := Option.some.inj (h1.symm.trans h2)
    subst h3
    exact k q H1 locs ls hP1 hD1 hS1 hv
theorem Z.aast (hX : Zf p m c cc nL s args own D tys A) (q0 t0 qk : Nat) {a v : Nat} {cA : ClassId} {n : Nat} {f : Nat → Option Nat} {z : Int} {vs : List Value} (hd : decode cc pc = .ok (.aastore, 1)) (ha : w[q0]? = some (a, .inl (cA, n, .inr (.inr (.inr (.inr f)))))) (ht : tys[t0]? = some (cA, .object "EliminateLoci$Plane")) (hv0 : w[qk]? = some (v, .inr (3, vs))) (h1 : 0 ≤ z) (h2 : z < n) (hn : n < 2147483648) (k : Z p l e R s m args below meth c D A nL cells slots Q (pc + 1) lv st (w.set q0 (a, .inl (cA, n, .inr (.inr (.inr (.inr (va_up f z.toNat (some v))))))))) : Z p l e R s m args below meth c D A nL cells slots Q pc lv (.ref v :: .int (zI z) :: .ref a :: st) w := by
  intro H locs ls hP hD hS hv
  obtain ⟨hx, hb, hml, hown, hts, hK, hA, hN⟩ := id hX
  refine va_astq (r := ("EliminateLoci$Plane", TX3, 2)) hx hb hK hP hD hS q0 t0 qk 3 ha ht hv0 rfl (zI_in h1 h2 hn) hd (fun H1 locs1 hP1 hD1 hS1 => ?_)
  rw [zI_cl h1 (by omega)] at hP1 hD1
  exact k H1 locs1 ls hP1 hD1 hS1 hv
theorem Z.congA {a : Nat} {cA : ClassId} {n : Nat} {f g : Nat → Option Nat} (q0 : Nat) (ha : w[q0]? = some (a, .inl (cA, n, .inr (.inr (.inr (.inr f)))))) (hf : ∀ j, j < n → f j = g j) (k : Z p l e R s m args below meth c D A nL cells slots Q pc lv st (w.set q0 (a, .inl (cA, n, .inr (.inr (.inr (.inr g))))))) : Z p l e R s m args below meth c D A nL cells slots Q pc lv st w := by
  intro H locs ls hP hD hS hv
  refine k H locs ls (hP.set hD ha ?_ (fun _ _ => rfl)) (hD.set ha) hS hv
  have h1 : H[a]? = some (vp_cell cA (n, .inr (.inr (.inr (.inr f))))) := hP q0 _ ha
  show H[a]? = some (vp_cell cA (n, .inr (.inr (.inr (.inr g)))))
  rw [h1, vp_cell_q, vp_cell_q, arrV_cong cA (fun j hj => by rw [hf j hj])]
end ZR7
end
section
section ZR7
variable {p : Program} {l : Launch} {e : Env} {R : Room} {s : State} {m : MethodId} {args : Array Value} {below : List Frame} {meth : Method} {c : Code} {D : va_G} {A : Nat → Prop} {nL cells slots : Nat} {Q : State → Prop}
variable {cc : ByteArray} {own : String} {tys : List (ClassId × FieldType)} {pc : Nat} {lv : List (Nat × Value)} {st : List Value} {w : va_W}
theorem Z.mna (hX : Zf p m c cc nL s args own D tys A) (t0 t1 : Nat) {cA cJ : ClassId} {index : Nat} (hd : decode cc pc = .ok (.multianewarray index 2, 4)) (ht0 : tys[t0]? = some (cA, .array .long)) (ht1 : tys[t1]? = some (cJ, .long)) (hcl : Cond.classLink own index "[[J" ∈ lw_g) (har : Cond.arrayClass .long ∈ lw_g) (hcells : cells + 4 ≤ R.cells) (hslots : slots + 18 ≤ R.slots) (k : ∀ q : Nat, Z p l e R s m args below meth c D A nL (cells + 4) (slots + 18) Q (pc + 4) lv (.ref q :: st) (w ++ [(q, .inl (cA, 3, .inr (.inr (.inr (.inr (fun i => some (q + 1 + i))))))), (q + 1, .inl (cJ, 5, .inr (.inl (fun _ => 0)))), (q + 2, .inl (cJ, 5, .inr (.inl (fun _ => 0)))), (q + 3, .inl (cJ, 5, .inr (.inl (fun _ => 0))))])) : Z p l e R s m args below meth c D A nL cells slots Q pc lv (.int (zI 5) :: .int (zI 3) :: st) w := by
  intro H locs ls hP hD hS hv T hT X
  obtain ⟨hx, hb, hml, hown, hts, hK, hA, hN⟩ := id hX
  have e3 : (zI 3).toNatClampNeg = 3 := by decide +kernel
  have e5 : (zI 5).toNatClampNeg = 5 := by decide +kernel
  have es : ("[" ++ (FieldType.array .long).toString) = "[[J" := by decide +kernel
  obtain ⟨vm₁, cA', comp, hW, hfA, hfC, hO, hI, X1, step⟩ := X.multianewarray2F (own := own) (index := index) (ty := .long) (n := zI 3) (k := zI 5) (rest := st) (g := F0 m pc ls (.int (zI 5) :: .int (zI 3) :: st)) hx hown (by rw [es]; exact hts _ hcl) hN.2.2 (hts _ har) rfl (by rw [hb]; exact hd) rfl (by decide +kernel) (by decide +kernel) (by rw [e3]; decide) (by rw [e5]; decide) (by rw [e5]; decide) rfl rfl (by rw [e3]; omega) (by rw [e3, e5]; omega)
  have hA1 : cA' = cA := Option.some.inj (hfA.symm.trans (hK.2 t0 _ ht0).2)
  have hC1 : comp = cJ := Option.some.inj (hfC.symm.trans (hK.2 t1 _ ht1).2)
  subst hA1
  subst hC1
  rw [e3, e5] at X1 step
  have f1 := (Jvm.Free.Multi.fill_facts (T.setVm vm₁) cA' comp 3 5 (defaultValue .long) 3).1
  have f2 := (Jvm.Free.Multi.fill_facts (T.setVm vm₁) cA' comp 3 5 (defaultValue .long) 3).2.1
  have fo := fun (a : Addr) (ha : a < T.heap.size) => Jvm.Free.Multi.fill_old (T.setVm vm₁) cA' comp 3 5 (defaultValue .long) (a := a) ha 3
  have fi := fun (j : Nat) (hj : j < 3) => Jvm.Free.Multi.fill_inner (T.setVm vm₁) cA' comp 3 5 (defaultValue .long) 3 j hj
  generalize Jvm.Free.Multi.fill (T.setVm vm₁) cA' comp 3 5 (defaultValue .long) 3 = T1 at *
  have hh : (T.setVm vm₁).heap = H := hT
  have hin : ∀ j, j < 3 → T1.heap[H.size + 1 + j]? = some (vp_cell comp (5, .inr (.inl (fun _ => 0)))) := fun j hj => by
    have := fi j hj
    rw [hh] at this
    rw [this, vp_cell_l, ← arrV_new]
    rfl
  rw [hh] at f1 f2
  rw [hT] at fo step
  have hlt : ∀ (k : Nat) (q : Nat × va_E), w[k]? = some q → q.1 < H.size := fun k q h => (hP k q h).lt
  have old : ∀ a : Nat, a < H.size → T1.heap[a]? = H[a]? := fun a ha => (fo a ha).trans (by rw [hh])
  obtain ⟨t, a1, b1⟩ := k H.size T1.heap locs ls ((hP.kept (fun k q h => old _ (hlt k q h))).app (fun k q h => by
      match k, h with
      | 0, h => cases h; show T1.heap[H.size]? = some (vp_cell _ _); rw [f2, outer_eq, vp_cell_q]
      | 1, h => cases h; exact hin 0 (by decide)
      | 2, h => cases h; exact hin 1 (by decide)
      | 3, h => cases h; exact hin 2 (by decide)
      | k + 4, h => simp at h))
    (z_dApp hD hlt (fun k q h => by
      match k, h with
      | 0, h => cases h; rfl
      | 1, h => cases h; rfl
      | 2, h => cases h; rfl
      | 3, h => cases h; rfl
      | k + 4, h => simp at h) (fun q h => hA q (Nat.le_trans hS.1 h)))
    ⟨Nat.le_trans hS.1 (by omega), fun x h1 h2 => (old x (Nat.lt_of_lt_of_le h1 hS.1)).trans (hS.2.1 x h1 h2), hS.2.2⟩ hv T1 rfl X1
  exact ⟨t, step t a1, b1⟩
end ZR7
end
section
/-! what the class's constructors make -/
def plW (ce : Nat → ClassId) (a r : Nat) : va_W := [(a, .inr (3, [.ref r, .int (zI 0)])), (r, .inl (ce 1, 28, .inr (.inl (fun _ => 0))))]
def rowW (ce : Nat → ClassId) (a q : Nat) (f : Nat → Option Nat) : va_W := [(a, .inr (5, [.ref q])), (q, .inl (ce 3, 3, .inr (.inr (.inr (.inr f))))), (q + 1, .inl (ce 1, 5, .inr (.inl (fun _ => 0)))), (q + 2, .inl (ce 1, 5, .inr (.inl (fun _ => 0)))), (q + 3, .inl (ce 1, 5, .inr (.inl (fun _ => 0))))]
def divW (ce : Nat → ClassId) (a : Nat) (g : Nat → Nat) : va_W := [(a, .inr (1, [.ref (g 0), .ref (g 1), .ref (g 2)])), (g 0, .inl (ce 1, 5, .inr (.inl (fun _ => 0)))), (g 1, .inl (ce 1, 5, .inr (.inl (fun _ => 0)))), (g 2, .inl (ce 1, 5, .inr (.inl (fun _ => 0))))]
def curW (ce : Nat → ClassId) (a b r : Nat) : va_W := [(a, .inr (0, [.ref b, .int (zI 0), .int (zI 0), .int (zI 0)])), (b, .inr (3, [.ref r, .int (zI 0)])), (r, .inl (ce 1, 28, .inr (.inl (fun _ => 0))))]
def rfW (ce : Nat → ClassId) (a : Nat) (b r : Nat → Nat) : va_W := [(a, .inr (4, [.ref (b 0), .ref (b 1), .ref (b 2), .ref (b 3)])), (b 0, .inr (3, [.ref (r 0), .int (zI 0)])), (r 0, .inl (ce 1, 28, .inr (.inl (fun _ => 0)))), (b 1, .inr (3, [.ref (r 1), .int (zI 0)])), (r 1, .inl (ce 1, 28, .inr (.inl (fun _ => 0)))), (b 2, .inr (3, [.ref (r 2), .int (zI 0)])), (r 2, .inl (ce 1, 28, .inr (.inl (fun _ => 0)))), (b 3, .inr (3, [.ref (r 3), .int (zI 0)])), (r 3, .inl (ce 1, 28, .inr (.inl (fun _ => 0))))]
def elE (ce : Nat → ClassId) (a : Nat) (g : Nat → Nat) (f1 f2 f3 f4 : Nat → Option Nat) : va_W := [(a, .inr (2, [.ref (g 0), .ref (g 1), .ref (g 2), .ref (g 3)])), (g 0, .inl (ce 4, 5, .inr (.inr (.inr (.inr f1))))), (g 1, .inl (ce 4, 5, .inr (.inr (.inr (.inr f2))))), (g 2, .inl (ce 4, 16, .inr (.inr (.inr (.inr f3))))), (g 3, .inl (ce 4, 16, .inr (.inr (.inr (.inr f4)))))]
def pp (ce : Nat → ClassId) (P : List (Nat × Nat)) : va_W := P.flatMap (fun x => plW ce x.1 x.2)
def ppF (ce : Nat → ClassId) (pl ar : Nat → Nat) : va_W := (List.range 36).flatMap (fun k => plW ce (pl k) (ar k))
theorem pp_snoc (ce : Nat → ClassId) (P : List (Nat × Nat)) (a r : Nat) : pp ce P ++ plW ce a r = pp ce (P ++ [(a, r)]) := by
  unfold pp
  rw [List.flatMap_append]
  simp
theorem pp_len (ce : Nat → ClassId) (P : List (Nat × Nat)) : (pp ce P).length = 2 * P.length := by
  induction P with
  | nil => rfl
  | cons x P ih =>
    show (plW ce x.1 x.2 ++ pp ce P).length = _
    rw [List.length_append, ih]
    show 2 + _ = _
    rw [List.length_cons]
    omega
theorem pp_last {ce : Nat → ClassId} {a : Nat} {g : Nat → Nat} {f1 f2 f3 f4 : Nat → Option Nat} {P : List (Nat × Nat)} {q r : Nat} : (elE ce a g f1 f2 f3 f4 ++ pp ce (P ++ [(q, r)]))[5 + 2 * P.length]? = some (q, .inr (3, [.ref r, .int (zI 0)])) := by
  rw [List.getElem?_append_right (by show 5 ≤ _; omega)]
  show (pp ce (P ++ [(q, r)]))[5 + 2 * P.length - 5]? = _
  rw [← pp_snoc, show 5 + 2 * P.length - 5 = 2 * P.length by omega, List.getElem?_append_right (by rw [pp_len]; exact Nat.le_refl _), pp_len, Nat.sub_self]
  rfl
theorem el_snoc {ce : Nat → ClassId} {a : Nat} {g : Nat → Nat} {f1 f2 f3 f4 : Nat → Option Nat} {P : List (Nat × Nat)} {q r : Nat} : elE ce a g f1 f2 f3 f4 ++ pp ce P ++ plW ce q r = elE ce a g f1 f2 f3 f4 ++ pp ce (P ++ [(q, r)]) := by
  rw [List.append_assoc, pp_snoc]
/-- the k-th plane that was made -/
def pn (P : List (Nat × Nat)) (k : Nat) : Option Nat := (P[k]?).map (·.1)
theorem pn_old {P : List (Nat × Nat)} {x : Nat × Nat} {k : Nat} (h : k < P.length) : pn (P ++ [x]) k = pn P k := by
  unfold pn
  rw [List.getElem?_append_left h]
theorem pn_new {P : List (Nat × Nat)} {q r k : Nat} (h : k = P.length) : pn (P ++ [(q, r)]) k = some q := by
  unfold pn
  rw [h, List.getElem?_append_right (Nat.le_refl _), Nat.sub_self]
  rfl
theorem pn_get {P : List (Nat × Nat)} {k : Nat} (h : k < P.length) : pn P k = some (P.getD k (0, 0)).1 := by
  unfold pn
  rw [List.getD_eq_getElem?_getD, List.getElem?_eq_getElem h]
  rfl
theorem pp_all {ce : Nat → ClassId} {P : List (Nat × Nat)} (h : P.length = 36) : pp ce P = ppF ce (fun k => (P.getD k (0, 0)).1) (fun k => (P.getD k (0, 0)).2) := by
  unfold ppF
  have h1 : P = (List.range 36).map (fun k => P.getD k (0, 0)) := by
    apply List.ext_getElem (by simp [h])
    intro i h1 h2
    simp [List.getD_eq_getElem?_getD, h1]
  have h2 : pp ce ((List.range 36).map (fun k => P.getD k (0, 0))) = (List.range 36).flatMap (fun k => plW ce (P.getD k (0, 0)).1 (P.getD k (0, 0)).2) := by
    unfold pp
    rw [List.flatMap_map]
  rw [← h2, ← h1]
/-- which entries stand before (i, j) is made -/
def dne (i j n : Nat) : Bool := (min (n / 4) (n % 4) < i) || (min (n / 4) (n % 4) == i && max (n / 4) (n % 4) < j)
def bse (i : Nat) : Nat := ([0, 4, 7, 9, 10] : List Nat).getD i 0
theorem dne_s : ∀ i : Fin 4, ∀ j : Fin 4, ∀ n : Fin 16, i ≤ j → dne i (j + 1) n = true → n.val = 4 * i + j ∨ n.val = 4 * j + i ∨ dne i j n = true := by decide +kernel
theorem dne_e : ∀ i : Fin 4, ∀ n : Fin 16, dne (i + 1) (i + 1) n = true → dne i 4 n = true := by decide +kernel
theorem dne_t : ∀ i : Fin 4, ∀ j : Fin 4, i ≤ j → tri (4 * i + j) = bse i + (j - i) ∧ tri (4 * j + i) = bse i + (j - i) ∧ bse i + (4 - i) = bse (i + 1) ∧ 4 * j.val + i.val < 16 ∧ 4 * i.val + j.val < 16 := by decide +kernel
theorem dne_l : ∀ i : Fin 4, ∀ j : Fin 4, ∀ n : Fin 16, i ≤ j → dne i j n = true → tri n < bse i + (j - i) := by decide +kernel
theorem dne_a : ∀ n : Fin 16, dne 4 4 n = true := by decide +kernel
theorem dne_0 : ∀ n : Fin 16, dne 0 0 n = false := by decide +kernel
theorem bse_e : ∀ i : Fin 4, bse i + (4 - i) = bse (i + 1) := by decide +kernel
theorem el_done {ce : Nat → ClassId} {h0 : Nat} {g : Nat → Nat} {f1 f2 f3 f4 : Nat → Option Nat} {P : List (Nat × Nat)} (h : P.length = 36) (e1 : ∀ n, n < 5 → f1 n = pn P (2 * n)) (e2 : ∀ n, n < 5 → f2 n = pn P (2 * n + 1)) (e3 : ∀ n, n < 16 → f3 n = pn P (10 + tri n)) (e4 : ∀ n, n < 16 → f4 n = pn P (20 + n)) : ∃ g' : Nat → Nat, ∃ f1' : Nat → Option Nat, ∃ f2' : Nat → Option Nat, ∃ f3' : Nat → Option Nat, ∃ f4' : Nat → Option Nat, ∃ pl : Nat → Nat, ∃ ar : Nat → Nat, elE ce h0 g f1 f2 f3 f4 ++ ppF ce (fun k => (P.getD k (0, 0)).1) (fun k => (P.getD k (0, 0)).2) = (elE ce h0 g' f1' f2' f3' f4' ++ ppF ce pl ar) ∧ (∀ i, i < 5 → f1' i = some (pl (2 * i))) ∧ (∀ i, i < 5 → f2' i = some (pl (2 * i + 1))) ∧ (∀ i, i < 16 → f3' i = some (pl (10 + tri i))) ∧ (∀ i, i < 16 → f4' i = some (pl (20 + i))) :=
  ⟨g, f1, f2, f3, f4, _, _, rfl, fun i hi => (e1 i hi).trans (pn_get (by omega)), fun i hi => (e2 i hi).trans (pn_get (by omega)), fun i hi => (e3 i hi).trans (pn_get (by have := tri_lt i; omega)), fun i hi => (e4 i hi).trans (pn_get (by omega))⟩
end
section
set_option maxRecDepth 100000 in
theorem ml_X0_1 : Cond.methodLink RX0 1 objectInit ∈ lw_g := z_mem (k := 147) rfl rfl
set_option maxRecDepth 100000 in
theorem cl_X0_7 : Cond.classLink RX0 7 "EliminateLoci$Plane" ∈ lw_g := z_mem (k := 148) rfl rfl
set_option maxRecDepth 100000 in
theorem ins_X0 : Cond.instantiable RX0 4 ∈ lw_g := z_mem (k := 143) rfl rfl
set_option maxRecDepth 100000 in
theorem ml_X1_3 : Cond.methodLink RX1 3 objectInit ∈ lw_g := z_mem (k := 72) rfl rfl
set_option maxRecDepth 100000 in
theorem ins_X1 : Cond.instantiable RX1 3 ∈ lw_g := z_mem (k := 68) rfl rfl
set_option maxRecDepth 100000 in
theorem ml_X2_3 : Cond.methodLink RX2 3 objectInit ∈ lw_g := z_mem (k := 88) rfl rfl
set_option maxRecDepth 100000 in
theorem cl_X2_9 : Cond.classLink RX2 9 "EliminateLoci$Plane" ∈ lw_g := z_mem (k := 89) rfl rfl
set_option maxRecDepth 100000 in
theorem ins_X2 : Cond.instantiable RX2 4 ∈ lw_g := z_mem (k := 84) rfl rfl
set_option maxRecDepth 100000 in
theorem ml_X3_3 : Cond.methodLink RX3 3 objectInit ∈ lw_g := z_mem (k := 95) rfl rfl
set_option maxRecDepth 100000 in
theorem ins_X3 : Cond.instantiable RX3 2 ∈ lw_g := z_mem (k := 91) rfl rfl
set_option maxRecDepth 100000 in
theorem ml_X4_1 : Cond.methodLink RX4 1 objectInit ∈ lw_g := z_mem (k := 126) rfl rfl
set_option maxRecDepth 100000 in
theorem cl_X4_7 : Cond.classLink RX4 7 "EliminateLoci$Plane" ∈ lw_g := z_mem (k := 127) rfl rfl
set_option maxRecDepth 100000 in
theorem ins_X4 : Cond.instantiable RX4 4 ∈ lw_g := z_mem (k := 122) rfl rfl
set_option maxRecDepth 100000 in
theorem ml_X5_3 : Cond.methodLink RX5 3 objectInit ∈ lw_g := z_mem (k := 56) rfl rfl
set_option maxRecDepth 100000 in
theorem cl_X5_9 : Cond.classLink RX5 9 "[[J" ∈ lw_g := z_mem (k := 57) rfl rfl
set_option maxRecDepth 100000 in
theorem ins_X5 : Cond.instantiable RX5 1 ∈ lw_g := z_mem (k := 52) rfl rfl
set_option maxRecDepth 100000 in
theorem ml_X6_1 : Cond.methodLink RX6 1 objectInit ∈ lw_g := z_mem (k := 48) rfl rfl
set_option maxRecDepth 100000 in
theorem cl_X6_7 : Cond.classLink RX6 7 "EliminateLoci$Row" ∈ lw_g := z_mem (k := 51) rfl rfl
set_option maxRecDepth 100000 in
theorem cl_X6_19 : Cond.classLink RX6 19 "EliminateLoci$Divisor" ∈ lw_g := z_mem (k := 67) rfl rfl
set_option maxRecDepth 100000 in
theorem cl_X6_26 : Cond.classLink RX6 26 "EliminateLoci$Eliminant" ∈ lw_g := z_mem (k := 83) rfl rfl
set_option maxRecDepth 100000 in
theorem cl_X6_33 : Cond.classLink RX6 33 "EliminateLoci$RootFinder" ∈ lw_g := z_mem (k := 121) rfl rfl
set_option maxRecDepth 100000 in
theorem cl_X6_40 : Cond.classLink RX6 40 "EliminateLoci$Curve" ∈ lw_g := z_mem (k := 142) rfl rfl
set_option maxRecDepth 100000 in
theorem ins_X6 : Cond.instantiable RX6 9 ∈ lw_g := z_mem (k := 44) rfl rfl
theorem df_X0 : ∀ j, j < 4 → defaultValue (tyX0 j) = vp_V [.null, .int (zI 0), .int (zI 0), .int (zI 0)] j := by
  intro j hj
  rcases (show j = 0 ∨ j = 1 ∨ j = 2 ∨ j = 3 by omega) with rfl | rfl | rfl | rfl <;> rfl
theorem df_X1 : ∀ j, j < 3 → defaultValue (tyX1 j) = vp_V [.null, .null, .null] j := by
  intro j hj
  rcases (show j = 0 ∨ j = 1 ∨ j = 2 by omega) with rfl | rfl | rfl <;> rfl
theorem df_X2 : ∀ j, j < 4 → defaultValue (tyX2 j) = vp_V [.null, .null, .null, .null] j := by
  intro j hj
  rcases (show j = 0 ∨ j = 1 ∨ j = 2 ∨ j = 3 by omega) with rfl | rfl | rfl | rfl <;> rfl
theorem df_X3 : ∀ j, j < 2 → defaultValue (tyX3 j) = vp_V [.null, .int (zI 0)] j := by
  intro j hj
  rcases (show j = 0 ∨ j = 1 by omega) with rfl | rfl <;> rfl
theorem df_X4 : ∀ j, j < 4 → defaultValue (tyX4 j) = vp_V [.null, .null, .null, .null] j := by
  intro j hj
  rcases (show j = 0 ∨ j = 1 ∨ j = 2 ∨ j = 3 by omega) with rfl | rfl | rfl | rfl <;> rfl
theorem df_X5 : ∀ j, j < 1 → defaultValue (tyX5 j) = vp_V [.null] j := by
  intro j hj
  rcases (show j = 0 by omega) with rfl <;> rfl
theorem df_X6 : ∀ j, j < 9 → defaultValue (tyX6 j) = vp_V [.null, .null, .null, .null, .null, .null, .null, .null, .int (zI 0)] j := by
  intro j hj
  rcases (show j = 0 ∨ j = 1 ∨ j = 2 ∨ j = 3 ∨ j = 4 ∨ j = 5 ∨ j = 6 ∨ j = 7 ∨ j = 8 by omega) with rfl | rfl | rfl | rfl | rfl | rfl | rfl | rfl | rfl <;> rfl
theorem dX3_init_0 : decode cX3_init 0 = .ok (.aload_n 0, 1) := by decide +kernel
theorem dX3_init_1 : decode cX3_init 1 = .ok (.invokespecial 3, 3) := by decide +kernel
theorem dX3_init_4 : decode cX3_init 4 = .ok (.aload_n 0, 1) := by decide +kernel
theorem dX3_init_5 : decode cX3_init 5 = .ok (.bipush 28, 2) := by decide +kernel
theorem dX3_init_7 : decode cX3_init 7 = .ok (.newarray .long, 2) := by decide +kernel
theorem dX3_init_9 : decode cX3_init 9 = .ok (.putfield 9, 3) := by decide +kernel
theorem dX3_init_12 : decode cX3_init 12 = .ok (.aload_n 0, 1) := by decide +kernel
theorem dX3_init_13 : decode cX3_init 13 = .ok (.iconst 0, 1) := by decide +kernel
theorem dX3_init_14 : decode cX3_init 14 = .ok (.putfield 15, 3) := by decide +kernel
theorem dX3_init_17 : decode cX3_init 17 = .ok (.return_, 1) := by decide +kernel
set_option maxHeartbeats 4000000 in
set_option maxRecDepth 100000 in
theorem ct_X3_init (l : Launch) (D : va_G) (ce : Nat → ClassId) (h0 : Nat) : Ct l yX3_init cX3_init 1 none { frames := 1, cells := 1, slots := 28, locals := 12 } 1 28 D (TY ce) [.ref h0] [(h0, .inr (3, [.null, .int (zI 0)]))] (QV D (TY ce) (fun w1 => ∃ r : Nat, w1 = plW ce h0 r)) := by
  refine Ct.ofV (by decide) (Nat.le_of_ble_eq_true rfl) ?_
  intro p e s m args below meth c A Q hX hnm hR
  refine Z.pick (lv' := [(0, .ref h0)]) [0] rfl ?_
  refine Z.aload_n hX dX3_init_0 rfl rfl ?_
  refine Z.objI hX dX3_init_1 ml_X3_3 im_obj mc_obj (by decide) (by decide) ?_
  refine Z.aload_n hX dX3_init_4 rfl rfl ?_
  refine Z.bipush hX dX3_init_5 (by decide) ?_
  refine Z.newl (N := 28) hX 1 dX3_init_7 rfl ac_1 rfl (by decide) (Nat.le_of_ble_eq_true rfl) (Nat.le_of_ble_eq_true rfl) ?_
  intro q1
  refine Z.toW (w' := (h0, .inr (3, [.null, .int (zI 0)])) :: (([]) ++ [(q1, .inl (ce 1, 28, .inr (.inl (fun _ => 0))))])) rfl ?_
  refine Z.putF (ty := tyX3 0) hX 3 0 0 tyX3 hnm dX3_init_9 rfl rfl inX3 tyX3_ok nmX3 (by decide) fl_X3_9 rfl rfl rfl (by decide +kernel) rfl rfl (Nat.le_of_ble_eq_true rfl) ?_
  refine Z.toW (w' := (h0, .inr (3, [.ref q1, .int (zI 0)])) :: (([]) ++ [(q1, .inl (ce 1, 28, .inr (.inl (fun _ => 0))))])) rfl ?_
  refine Z.aload_n hX dX3_init_12 rfl rfl ?_
  refine Z.iconst hX dX3_init_13 ?_
  refine Z.putf (ty := tyX3 1) hX 3 0 1 tyX3 dX3_init_14 rfl rfl inX3 tyX3_ok nmX3 (by decide) fl_X3_15 rfl rfl (by decide +kernel) rfl rfl (Nat.le_of_ble_eq_true rfl) ?_
  refine Z.toW (w' := (h0, .inr (3, [.ref q1, .int (zI 0)])) :: (([]) ++ [(q1, .inl (ce 1, 28, .inr (.inl (fun _ => 0))))])) rfl ?_
  exact hR _ _ _ dX3_init_17 ⟨q1, rfl⟩
theorem dX5_init_0 : decode cX5_init 0 = .ok (.aload_n 0, 1) := by decide +kernel
theorem dX5_init_1 : decode cX5_init 1 = .ok (.invokespecial 3, 3) := by decide +kernel
theorem dX5_init_4 : decode cX5_init 4 = .ok (.aload_n 0, 1) := by decide +kernel
theorem dX5_init_5 : decode cX5_init 5 = .ok (.iconst 3, 1) := by decide +kernel
theorem dX5_init_6 : decode cX5_init 6 = .ok (.iconst 5, 1) := by decide +kernel
theorem dX5_init_7 : decode cX5_init 7 = .ok (.multianewarray 9 2, 4) := by decide +kernel
theorem dX5_init_11 : decode cX5_init 11 = .ok (.putfield 11, 3) := by decide +kernel
theorem dX5_init_14 : decode cX5_init 14 = .ok (.return_, 1) := by decide +kernel
set_option maxHeartbeats 4000000 in
set_option maxRecDepth 100000 in
theorem ct_X5_init (l : Launch) (D : va_G) (ce : Nat → ClassId) (h0 : Nat) : Ct l yX5_init cX5_init 1 none { frames := 1, cells := 4, slots := 18, locals := 12 } 4 18 D (TY ce) [.ref h0] [(h0, .inr (5, [.null]))] (QV D (TY ce) (fun w1 => ∃ r : Nat, w1 = rowW ce h0 r (fun i => some (r + 1 + i)))) := by
  refine Ct.ofV (by decide) (Nat.le_of_ble_eq_true rfl) ?_
  intro p e s m args below meth c A Q hX hnm hR
  refine Z.pick (lv' := [(0, .ref h0)]) [0] rfl ?_
  refine Z.aload_n hX dX5_init_0 rfl rfl ?_
  refine Z.objI hX dX5_init_1 ml_X5_3 im_obj mc_obj (by decide) (by decide) ?_
  refine Z.aload_n hX dX5_init_4 rfl rfl ?_
  refine Z.iconst hX dX5_init_5 ?_
  refine Z.iconst hX dX5_init_6 ?_
  refine Z.mna hX 3 1 dX5_init_7 rfl rfl cl_X5_9 ac_1 (Nat.le_of_ble_eq_true rfl) (Nat.le_of_ble_eq_true rfl) ?_
  intro q1
  refine Z.toW (w' := (h0, .inr (5, [.null])) :: (([]) ++ [(q1, .inl (ce 3, 3, .inr (.inr (.inr (.inr (fun i => some (q1 + 1 + i))))))), (q1 + 1, .inl (ce 1, 5, .inr (.inl (fun _ => 0)))), (q1 + 2, .inl (ce 1, 5, .inr (.inl (fun _ => 0)))), (q1 + 3, .inl (ce 1, 5, .inr (.inl (fun _ => 0))))])) rfl ?_
  refine Z.putF (ty := tyX5 0) hX 5 0 0 tyX5 hnm dX5_init_11 rfl rfl inX5 tyX5_ok nmX5 (by decide) fl_X5_11 rfl rfl rfl (by decide +kernel) rfl rfl (Nat.le_of_ble_eq_true rfl) ?_
  refine Z.toW (w' := (h0, .inr (5, [.ref q1])) :: (([]) ++ [(q1, .inl (ce 3, 3, .inr (.inr (.inr (.inr (fun i => some (q1 + 1 + i))))))), (q1 + 1, .inl (ce 1, 5, .inr (.inl (fun _ => 0)))), (q1 + 2, .inl (ce 1, 5, .inr (.inl (fun _ => 0)))), (q1 + 3, .inl (ce 1, 5, .inr (.inl (fun _ => 0))))])) rfl ?_
  exact hR _ _ _ dX5_init_14 ⟨q1, rfl⟩
theorem dX1_init_0 : decode cX1_init 0 = .ok (.aload_n 0, 1) := by decide +kernel
theorem dX1_init_1 : decode cX1_init 1 = .ok (.invokespecial 3, 3) := by decide +kernel
theorem dX1_init_4 : decode cX1_init 4 = .ok (.aload_n 0, 1) := by decide +kernel
theorem dX1_init_5 : decode cX1_init 5 = .ok (.iconst 5, 1) := by decide +kernel
theorem dX1_init_6 : decode cX1_init 6 = .ok (.newarray .long, 2) := by decide +kernel
theorem dX1_init_8 : decode cX1_init 8 = .ok (.putfield 9, 3) := by decide +kernel
theorem dX1_init_11 : decode cX1_init 11 = .ok (.aload_n 0, 1) := by decide +kernel
theorem dX1_init_12 : decode cX1_init 12 = .ok (.iconst 5, 1) := by decide +kernel
theorem dX1_init_13 : decode cX1_init 13 = .ok (.newarray .long, 2) := by decide +kernel
theorem dX1_init_15 : decode cX1_init 15 = .ok (.putfield 15, 3) := by decide +kernel
theorem dX1_init_18 : decode cX1_init 18 = .ok (.aload_n 0, 1) := by decide +kernel
theorem dX1_init_19 : decode cX1_init 19 = .ok (.iconst 5, 1) := by decide +kernel
theorem dX1_init_20 : decode cX1_init 20 = .ok (.newarray .long, 2) := by decide +kernel
theorem dX1_init_22 : decode cX1_init 22 = .ok (.putfield 18, 3) := by decide +kernel
theorem dX1_init_25 : decode cX1_init 25 = .ok (.return_, 1) := by decide +kernel
set_option maxHeartbeats 4000000 in
set_option maxRecDepth 100000 in
theorem ct_X1_init (l : Launch) (D : va_G) (ce : Nat → ClassId) (h0 : Nat) : Ct l yX1_init cX1_init 1 none { frames := 1, cells := 3, slots := 15, locals := 12 } 3 15 D (TY ce) [.ref h0] [(h0, .inr (1, [.null, .null, .null]))] (QV D (TY ce) (fun w1 => ∃ g : Nat → Nat, w1 = divW ce h0 g)) := by
  refine Ct.ofV (by decide) (Nat.le_of_ble_eq_true rfl) ?_
  intro p e s m args below meth c A Q hX hnm hR
  refine Z.pick (lv' := [(0, .ref h0)]) [0] rfl ?_
  refine Z.aload_n hX dX1_init_0 rfl rfl ?_
  refine Z.objI hX dX1_init_1 ml_X1_3 im_obj mc_obj (by decide) (by decide) ?_
  refine Z.aload_n hX dX1_init_4 rfl rfl ?_
  refine Z.iconst hX dX1_init_5 ?_
  refine Z.newl (N := 5) hX 1 dX1_init_6 rfl ac_1 rfl (by decide) (Nat.le_of_ble_eq_true rfl) (Nat.le_of_ble_eq_true rfl) ?_
  intro q1
  refine Z.toW (w' := (h0, .inr (1, [.null, .null, .null])) :: (([]) ++ [(q1, .inl (ce 1, 5, .inr (.inl (fun _ => 0))))])) rfl ?_
  refine Z.putF (ty := tyX1 0) hX 1 0 0 tyX1 hnm dX1_init_8 rfl rfl inX1 tyX1_ok nmX1 (by decide) fl_X1_9 rfl rfl rfl (by decide +kernel) rfl rfl (Nat.le_of_ble_eq_true rfl) ?_
  refine Z.toW (w' := (h0, .inr (1, [.ref q1, .null, .null])) :: (([]) ++ [(q1, .inl (ce 1, 5, .inr (.inl (fun _ => 0))))])) rfl ?_
  refine Z.aload_n hX dX1_init_11 rfl rfl ?_
  refine Z.iconst hX dX1_init_12 ?_
  refine Z.newl (N := 5) hX 1 dX1_init_13 rfl ac_1 rfl (by decide) (Nat.le_of_ble_eq_true rfl) (Nat.le_of_ble_eq_true rfl) ?_
  intro q2
  refine Z.toW (w' := (h0, .inr (1, [.ref q1, .null, .null])) :: ((([]) ++ [(q1, .inl (ce 1, 5, .inr (.inl (fun _ => 0))))]) ++ [(q2, .inl (ce 1, 5, .inr (.inl (fun _ => 0))))])) rfl ?_
  refine Z.putF (ty := tyX1 1) hX 1 0 1 tyX1 hnm dX1_init_15 rfl rfl inX1 tyX1_ok nmX1 (by decide) fl_X1_15 rfl rfl rfl (by decide +kernel) rfl rfl (Nat.le_of_ble_eq_true rfl) ?_
  refine Z.toW (w' := (h0, .inr (1, [.ref q1, .ref q2, .null])) :: ((([]) ++ [(q1, .inl (ce 1, 5, .inr (.inl (fun _ => 0))))]) ++ [(q2, .inl (ce 1, 5, .inr (.inl (fun _ => 0))))])) rfl ?_
  refine Z.aload_n hX dX1_init_18 rfl rfl ?_
  refine Z.iconst hX dX1_init_19 ?_
  refine Z.newl (N := 5) hX 1 dX1_init_20 rfl ac_1 rfl (by decide) (Nat.le_of_ble_eq_true rfl) (Nat.le_of_ble_eq_true rfl) ?_
  intro q3
  refine Z.toW (w' := (h0, .inr (1, [.ref q1, .ref q2, .null])) :: (((([]) ++ [(q1, .inl (ce 1, 5, .inr (.inl (fun _ => 0))))]) ++ [(q2, .inl (ce 1, 5, .inr (.inl (fun _ => 0))))]) ++ [(q3, .inl (ce 1, 5, .inr (.inl (fun _ => 0))))])) rfl ?_
  refine Z.putF (ty := tyX1 2) hX 1 0 2 tyX1 hnm dX1_init_22 rfl rfl inX1 tyX1_ok nmX1 (by decide) fl_X1_18 rfl rfl rfl (by decide +kernel) rfl rfl (Nat.le_of_ble_eq_true rfl) ?_
  refine Z.toW (w' := (h0, .inr (1, [.ref q1, .ref q2, .ref q3])) :: (((([]) ++ [(q1, .inl (ce 1, 5, .inr (.inl (fun _ => 0))))]) ++ [(q2, .inl (ce 1, 5, .inr (.inl (fun _ => 0))))]) ++ [(q3, .inl (ce 1, 5, .inr (.inl (fun _ => 0))))])) rfl ?_
  exact hR _ _ _ dX1_init_25 ⟨fun k => ([q1, q2, q3] : List Nat).getD k 0, rfl⟩
theorem dX0_init_0 : decode cX0_init 0 = .ok (.aload_n 0, 1) := by decide +kernel
theorem dX0_init_1 : decode cX0_init 1 = .ok (.invokespecial 1, 3) := by decide +kernel
theorem dX0_init_4 : decode cX0_init 4 = .ok (.aload_n 0, 1) := by decide +kernel
theorem dX0_init_5 : decode cX0_init 5 = .ok (.new 7, 3) := by decide +kernel
theorem dX0_init_8 : decode cX0_init 8 = .ok (.dup, 1) := by decide +kernel
theorem dX0_init_9 : decode cX0_init 9 = .ok (.invokespecial 9, 3) := by decide +kernel
theorem dX0_init_12 : decode cX0_init 12 = .ok (.putfield 10, 3) := by decide +kernel
theorem dX0_init_15 : decode cX0_init 15 = .ok (.aload_n 0, 1) := by decide +kernel
theorem dX0_init_16 : decode cX0_init 16 = .ok (.iconst 0, 1) := by decide +kernel
theorem dX0_init_17 : decode cX0_init 17 = .ok (.putfield 16, 3) := by decide +kernel
theorem dX0_init_20 : decode cX0_init 20 = .ok (.aload_n 0, 1) := by decide +kernel
theorem dX0_init_21 : decode cX0_init 21 = .ok (.iconst 0, 1) := by decide +kernel
theorem dX0_init_22 : decode cX0_init 22 = .ok (.putfield 20, 3) := by decide +kernel
theorem dX0_init_25 : decode cX0_init 25 = .ok (.aload_n 0, 1) := by decide +kernel
theorem dX0_init_26 : decode cX0_init 26 = .ok (.iconst 0, 1) := by decide +kernel
theorem dX0_init_27 : decode cX0_init 27 = .ok (.putfield 24, 3) := by decide +kernel
theorem dX0_init_30 : decode cX0_init 30 = .ok (.return_, 1) := by decide +kernel
set_option maxHeartbeats 4000000 in
set_option maxRecDepth 100000 in
theorem ct_X0_init (l : Launch) (D : va_G) (ce : Nat → ClassId) (h0 : Nat) : Ct l yX0_init cX0_init 1 none { frames := 2, cells := 2, slots := 30, locals := 32 } 2 30 D (TY ce) [.ref h0] [(h0, .inr (0, [.null, .int (zI 0), .int (zI 0), .int (zI 0)]))] (QV D (TY ce) (fun w1 => ∃ b : Nat, ∃ r : Nat, w1 = curW ce h0 b r)) := by
  refine Ct.ofV (by decide) (Nat.le_of_ble_eq_true rfl) ?_
  intro p e s m args below meth c A Q hX hnm hR
  refine Z.pick (lv' := [(0, .ref h0)]) [0] rfl ?_
  refine Z.aload_n hX dX0_init_0 rfl rfl ?_
  refine Z.objI hX dX0_init_1 ml_X0_1 im_obj mc_obj (by decide) (by decide) ?_
  refine Z.aload_n hX dX0_init_4 rfl rfl ?_
  refine Z.newO (fs := [.null, .int (zI 0)]) hX 3 tyX3 dX0_init_5 rfl inX3 tyX3_ok cl_X0_7 ins_X3 ini_X3 df_X3 (Nat.le_of_ble_eq_true rfl) (Nat.le_of_ble_eq_true rfl) ?_
  intro a1
  refine Z.dup hX dX0_init_8 rfl ?_
  refine Z.initN (wr := (h0, .inr (0, [.null, .int (zI 0), .int (zI 0), .int (zI 0)])) :: ([])) hX (ct_X3_init l D ce a1) mc_X3_init ns_X0_9 rfl im_X3_init ini_X3 nd_X3_init ⟨Nat.le_of_ble_eq_true rfl, Nat.le_of_ble_eq_true rfl⟩ ⟨rfl, rfl⟩ ⟨Nat.le_of_ble_eq_true rfl, Nat.le_of_ble_eq_true rfl⟩ (Nat.le_of_ble_eq_true rfl) dX0_init_9 ?_
  rintro w1 ⟨r2, hw_⟩
  subst hw_
  refine Z.toW (w' := (h0, .inr (0, [.null, .int (zI 0), .int (zI 0), .int (zI 0)])) :: (([]) ++ plW ce a1 r2)) rfl ?_
  refine Z.putF (ty := tyX0 0) hX 0 0 0 tyX0 hnm dX0_init_12 rfl rfl inX0 tyX0_ok nmX0 (by decide) fl_X0_10 rfl rfl rfl (by decide +kernel) rfl rfl (Nat.le_of_ble_eq_true rfl) ?_
  refine Z.toW (w' := (h0, .inr (0, [.ref a1, .int (zI 0), .int (zI 0), .int (zI 0)])) :: (([]) ++ plW ce a1 r2)) rfl ?_
  refine Z.aload_n hX dX0_init_15 rfl rfl ?_
  refine Z.iconst hX dX0_init_16 ?_
  refine Z.putf (ty := tyX0 1) hX 0 0 1 tyX0 dX0_init_17 rfl rfl inX0 tyX0_ok nmX0 (by decide) fl_X0_16 rfl rfl (by decide +kernel) rfl rfl (Nat.le_of_ble_eq_true rfl) ?_
  refine Z.toW (w' := (h0, .inr (0, [.ref a1, .int (zI 0), .int (zI 0), .int (zI 0)])) :: (([]) ++ plW ce a1 r2)) rfl ?_
  refine Z.aload_n hX dX0_init_20 rfl rfl ?_
  refine Z.iconst hX dX0_init_21 ?_
  refine Z.putf (ty := tyX0 2) hX 0 0 2 tyX0 dX0_init_22 rfl rfl inX0 tyX0_ok nmX0 (by decide) fl_X0_20 rfl rfl (by decide +kernel) rfl rfl (Nat.le_of_ble_eq_true rfl) ?_
  refine Z.toW (w' := (h0, .inr (0, [.ref a1, .int (zI 0), .int (zI 0), .int (zI 0)])) :: (([]) ++ plW ce a1 r2)) rfl ?_
  refine Z.aload_n hX dX0_init_25 rfl rfl ?_
  refine Z.iconst hX dX0_init_26 ?_
  refine Z.putf (ty := tyX0 3) hX 0 0 3 tyX0 dX0_init_27 rfl rfl inX0 tyX0_ok nmX0 (by decide) fl_X0_24 rfl rfl (by decide +kernel) rfl rfl (Nat.le_of_ble_eq_true rfl) ?_
  refine Z.toW (w' := (h0, .inr (0, [.ref a1, .int (zI 0), .int (zI 0), .int (zI 0)])) :: (([]) ++ plW ce a1 r2)) rfl ?_
  exact hR _ _ _ dX0_init_30 ⟨a1, r2, rfl⟩
theorem dX4_init_0 : decode cX4_init 0 = .ok (.aload_n 0, 1) := by decide +kernel
theorem dX4_init_1 : decode cX4_init 1 = .ok (.invokespecial 1, 3) := by decide +kernel
theorem dX4_init_4 : decode cX4_init 4 = .ok (.aload_n 0, 1) := by decide +kernel
theorem dX4_init_5 : decode cX4_init 5 = .ok (.new 7, 3) := by decide +kernel
theorem dX4_init_8 : decode cX4_init 8 = .ok (.dup, 1) := by decide +kernel
theorem dX4_init_9 : decode cX4_init 9 = .ok (.invokespecial 9, 3) := by decide +kernel
theorem dX4_init_12 : decode cX4_init 12 = .ok (.putfield 10, 3) := by decide +kernel
theorem dX4_init_15 : decode cX4_init 15 = .ok (.aload_n 0, 1) := by decide +kernel
theorem dX4_init_16 : decode cX4_init 16 = .ok (.new 7, 3) := by decide +kernel
theorem dX4_init_19 : decode cX4_init 19 = .ok (.dup, 1) := by decide +kernel
theorem dX4_init_20 : decode cX4_init 20 = .ok (.invokespecial 9, 3) := by decide +kernel
theorem dX4_init_23 : decode cX4_init 23 = .ok (.putfield 16, 3) := by decide +kernel
theorem dX4_init_26 : decode cX4_init 26 = .ok (.aload_n 0, 1) := by decide +kernel
theorem dX4_init_27 : decode cX4_init 27 = .ok (.new 7, 3) := by decide +kernel
theorem dX4_init_30 : decode cX4_init 30 = .ok (.dup, 1) := by decide +kernel
theorem dX4_init_31 : decode cX4_init 31 = .ok (.invokespecial 9, 3) := by decide +kernel
theorem dX4_init_34 : decode cX4_init 34 = .ok (.putfield 19, 3) := by decide +kernel
theorem dX4_init_37 : decode cX4_init 37 = .ok (.aload_n 0, 1) := by decide +kernel
theorem dX4_init_38 : decode cX4_init 38 = .ok (.new 7, 3) := by decide +kernel
theorem dX4_init_41 : decode cX4_init 41 = .ok (.dup, 1) := by decide +kernel
theorem dX4_init_42 : decode cX4_init 42 = .ok (.invokespecial 9, 3) := by decide +kernel
theorem dX4_init_45 : decode cX4_init 45 = .ok (.putfield 22, 3) := by decide +kernel
theorem dX4_init_48 : decode cX4_init 48 = .ok (.return_, 1) := by decide +kernel
set_option maxHeartbeats 4000000 in
set_option maxRecDepth 100000 in
theorem ct_X4_init (l : Launch) (D : va_G) (ce : Nat → ClassId) (h0 : Nat) : Ct l yX4_init cX4_init 1 none { frames := 2, cells := 8, slots := 120, locals := 32 } 8 120 D (TY ce) [.ref h0] [(h0, .inr (4, [.null, .null, .null, .null]))] (QV D (TY ce) (fun w1 => ∃ b : Nat → Nat, ∃ r : Nat → Nat, w1 = rfW ce h0 b r)) := by
  refine Ct.ofV (by decide) (Nat.le_of_ble_eq_true rfl) ?_
  intro p e s m args below meth c A Q hX hnm hR
  refine Z.pick (lv' := [(0, .ref h0)]) [0] rfl ?_
  refine Z.aload_n hX dX4_init_0 rfl rfl ?_
  refine Z.objI hX dX4_init_1 ml_X4_1 im_obj mc_obj (by decide) (by decide) ?_
  refine Z.aload_n hX dX4_init_4 rfl rfl ?_
  refine Z.newO (fs := [.null, .int (zI 0)]) hX 3 tyX3 dX4_init_5 rfl inX3 tyX3_ok cl_X4_7 ins_X3 ini_X3 df_X3 (Nat.le_of_ble_eq_true rfl) (Nat.le_of_ble_eq_true rfl) ?_
  intro a1
  refine Z.dup hX dX4_init_8 rfl ?_
  refine Z.initN (wr := (h0, .inr (4, [.null, .null, .null, .null])) :: ([])) hX (ct_X3_init l D ce a1) mc_X3_init ns_X4_9 rfl im_X3_init ini_X3 nd_X3_init ⟨Nat.le_of_ble_eq_true rfl, Nat.le_of_ble_eq_true rfl⟩ ⟨rfl, rfl⟩ ⟨Nat.le_of_ble_eq_true rfl, Nat.le_of_ble_eq_true rfl⟩ (Nat.le_of_ble_eq_true rfl) dX4_init_9 ?_
  rintro w1 ⟨r2, hw_⟩
  subst hw_
  refine Z.toW (w' := (h0, .inr (4, [.null, .null, .null, .null])) :: (([]) ++ plW ce a1 r2)) rfl ?_
  refine Z.putF (ty := tyX4 0) hX 4 0 0 tyX4 hnm dX4_init_12 rfl rfl inX4 tyX4_ok nmX4 (by decide) fl_X4_10 rfl rfl rfl (by decide +kernel) rfl rfl (Nat.le_of_ble_eq_true rfl) ?_
  refine Z.toW (w' := (h0, .inr (4, [.ref a1, .null, .null, .null])) :: (([]) ++ plW ce a1 r2)) rfl ?_
  refine Z.aload_n hX dX4_init_15 rfl rfl ?_
  refine Z.newO (fs := [.null, .int (zI 0)]) hX 3 tyX3 dX4_init_16 rfl inX3 tyX3_ok cl_X4_7 ins_X3 ini_X3 df_X3 (Nat.le_of_ble_eq_true rfl) (Nat.le_of_ble_eq_true rfl) ?_
  intro a3
  refine Z.dup hX dX4_init_19 rfl ?_
  refine Z.initN (wr := (h0, .inr (4, [.ref a1, .null, .null, .null])) :: (([]) ++ plW ce a1 r2)) hX (ct_X3_init l D ce a3) mc_X3_init ns_X4_9 rfl im_X3_init ini_X3 nd_X3_init ⟨Nat.le_of_ble_eq_true rfl, Nat.le_of_ble_eq_true rfl⟩ ⟨rfl, rfl⟩ ⟨Nat.le_of_ble_eq_true rfl, Nat.le_of_ble_eq_true rfl⟩ (Nat.le_of_ble_eq_true rfl) dX4_init_20 ?_
  rintro w1 ⟨r4, hw_⟩
  subst hw_
  refine Z.toW (w' := (h0, .inr (4, [.ref a1, .null, .null, .null])) :: ((([]) ++ plW ce a1 r2) ++ plW ce a3 r4)) rfl ?_
  refine Z.putF (ty := tyX4 1) hX 4 0 1 tyX4 hnm dX4_init_23 rfl rfl inX4 tyX4_ok nmX4 (by decide) fl_X4_16 rfl rfl rfl (by decide +kernel) rfl rfl (Nat.le_of_ble_eq_true rfl) ?_
  refine Z.toW (w' := (h0, .inr (4, [.ref a1, .ref a3, .null, .null])) :: ((([]) ++ plW ce a1 r2) ++ plW ce a3 r4)) rfl ?_
  refine Z.aload_n hX dX4_init_26 rfl rfl ?_
  refine Z.newO (fs := [.null, .int (zI 0)]) hX 3 tyX3 dX4_init_27 rfl inX3 tyX3_ok cl_X4_7 ins_X3 ini_X3 df_X3 (Nat.le_of_ble_eq_true rfl) (Nat.le_of_ble_eq_true rfl) ?_
  intro a5
  refine Z.dup hX dX4_init_30 rfl ?_
  refine Z.initN (wr := (h0, .inr (4, [.ref a1, .ref a3, .null, .null])) :: ((([]) ++ plW ce a1 r2) ++ plW ce a3 r4)) hX (ct_X3_init l D ce a5) mc_X3_init ns_X4_9 rfl im_X3_init ini_X3 nd_X3_init ⟨Nat.le_of_ble_eq_true rfl, Nat.le_of_ble_eq_true rfl⟩ ⟨rfl, rfl⟩ ⟨Nat.le_of_ble_eq_true rfl, Nat.le_of_ble_eq_true rfl⟩ (Nat.le_of_ble_eq_true rfl) dX4_init_31 ?_
  rintro w1 ⟨r6, hw_⟩
  subst hw_
  refine Z.toW (w' := (h0, .inr (4, [.ref a1, .ref a3, .null, .null])) :: (((([]) ++ plW ce a1 r2) ++ plW ce a3 r4) ++ plW ce a5 r6)) rfl ?_
  refine Z.putF (ty := tyX4 2) hX 4 0 2 tyX4 hnm dX4_init_34 rfl rfl inX4 tyX4_ok nmX4 (by decide) fl_X4_19 rfl rfl rfl (by decide +kernel) rfl rfl (Nat.le_of_ble_eq_true rfl) ?_
  refine Z.toW (w' := (h0, .inr (4, [.ref a1, .ref a3, .ref a5, .null])) :: (((([]) ++ plW ce a1 r2) ++ plW ce a3 r4) ++ plW ce a5 r6)) rfl ?_
  refine Z.aload_n hX dX4_init_37 rfl rfl ?_
  refine Z.newO (fs := [.null, .int (zI 0)]) hX 3 tyX3 dX4_init_38 rfl inX3 tyX3_ok cl_X4_7 ins_X3 ini_X3 df_X3 (Nat.le_of_ble_eq_true rfl) (Nat.le_of_ble_eq_true rfl) ?_
  intro a7
  refine Z.dup hX dX4_init_41 rfl ?_
  refine Z.initN (wr := (h0, .inr (4, [.ref a1, .ref a3, .ref a5, .null])) :: (((([]) ++ plW ce a1 r2) ++ plW ce a3 r4) ++ plW ce a5 r6)) hX (ct_X3_init l D ce a7) mc_X3_init ns_X4_9 rfl im_X3_init ini_X3 nd_X3_init ⟨Nat.le_of_ble_eq_true rfl, Nat.le_of_ble_eq_true rfl⟩ ⟨rfl, rfl⟩ ⟨Nat.le_of_ble_eq_true rfl, Nat.le_of_ble_eq_true rfl⟩ (Nat.le_of_ble_eq_true rfl) dX4_init_42 ?_
  rintro w1 ⟨r8, hw_⟩
  subst hw_
  refine Z.toW (w' := (h0, .inr (4, [.ref a1, .ref a3, .ref a5, .null])) :: ((((([]) ++ plW ce a1 r2) ++ plW ce a3 r4) ++ plW ce a5 r6) ++ plW ce a7 r8)) rfl ?_
  refine Z.putF (ty := tyX4 3) hX 4 0 3 tyX4 hnm dX4_init_45 rfl rfl inX4 tyX4_ok nmX4 (by decide) fl_X4_22 rfl rfl rfl (by decide +kernel) rfl rfl (Nat.le_of_ble_eq_true rfl) ?_
  refine Z.toW (w' := (h0, .inr (4, [.ref a1, .ref a3, .ref a5, .ref a7])) :: ((((([]) ++ plW ce a1 r2) ++ plW ce a3 r4) ++ plW ce a5 r6) ++ plW ce a7 r8)) rfl ?_
  exact hR _ _ _ dX4_init_48 ⟨fun k => ([a1, a3, a5, a7] : List Nat).getD k 0, fun k => ([r2, r4, r6, r8] : List Nat).getD k 0, rfl⟩
end
section
section ZR8
variable {p : Program} {l : Launch} {e : Env} {R : Room} {s : State} {m : MethodId} {args : Array Value} {below : List Frame} {meth : Method} {c : Code} {D : va_G} {A : Nat → Prop} {nL cells slots : Nat} {Q : State → Prop}
variable {cc : ByteArray} {own : String} {ce : Nat → ClassId} {pc : Nat} {lv : List (Nat × Value)} {st : List Value} {w : va_W}
theorem Z.mkPl (hX : Zf p m c cc nL s args own D (TY ce) A) {index idx2 : Nat} (hd1 : decode cc pc = .ok (.new index, 3)) (hd2 : decode cc (pc + 3) = .ok (.dup, 1)) (hd3 : decode cc (pc + 4) = .ok (.invokespecial idx2, 3)) (hcl : Cond.classLink own index "EliminateLoci$Plane" ∈ lw_g) (hlk : (own, idx2, yX3_init, "EliminateLoci") ∈ nst) (hR : 2 ≤ R.frames ∧ 32 ≤ R.locals) (hcells : cells + 2 ≤ R.cells) (hslots : slots + 30 ≤ R.slots) (hcat : ((st.map fun v => v.category).sum) + 1 ≤ 8) (k : ∀ q r : Nat, Z p l e R s m args below meth c D A nL (cells + 2) (slots + 30) Q (pc + 7) lv (.ref q :: st) (w ++ plW ce q r)) : Z p l e R s m args below meth c D A nL cells slots Q pc lv st w := by
  refine Z.newO (fs := [.null, .int (zI 0)]) hX 3 tyX3 hd1 rfl inX3 tyX3_ok hcl ins_X3 ini_X3 df_X3 (by omega) (by omega) ?_
  intro q
  refine Z.dup hX hd2 rfl ?_
  refine Z.initN (wr := w) hX (ct_X3_init l D ce q) mc_X3_init hlk rfl im_X3_init ini_X3 nd_X3_init ⟨hR.1, hR.2⟩ ⟨rfl, rfl⟩ ⟨by omega, by omega⟩ (by rw [List.map_cons, List.sum_cons]; show 1 + _ ≤ 8; omega) hd3 ?_
  rintro w1 ⟨r, hw_⟩
  subst hw_
  exact k q r
end ZR8
theorem dX2_init_0 : decode cX2_init 0 = .ok (.aload_n 0, 1) := by decide +kernel
theorem dX2_init_1 : decode cX2_init 1 = .ok (.invokespecial 3, 3) := by decide +kernel
theorem dX2_init_4 : decode cX2_init 4 = .ok (.aload_n 0, 1) := by decide +kernel
theorem dX2_init_5 : decode cX2_init 5 = .ok (.iconst 5, 1) := by decide +kernel
theorem dX2_init_6 : decode cX2_init 6 = .ok (.anewarray 9, 3) := by decide +kernel
theorem dX2_init_9 : decode cX2_init 9 = .ok (.putfield 11, 3) := by decide +kernel
theorem dX2_init_12 : decode cX2_init 12 = .ok (.aload_n 0, 1) := by decide +kernel
theorem dX2_init_13 : decode cX2_init 13 = .ok (.iconst 5, 1) := by decide +kernel
theorem dX2_init_14 : decode cX2_init 14 = .ok (.anewarray 9, 3) := by decide +kernel
theorem dX2_init_17 : decode cX2_init 17 = .ok (.putfield 17, 3) := by decide +kernel
theorem dX2_init_20 : decode cX2_init 20 = .ok (.aload_n 0, 1) := by decide +kernel
theorem dX2_init_21 : decode cX2_init 21 = .ok (.bipush 16, 2) := by decide +kernel
theorem dX2_init_23 : decode cX2_init 23 = .ok (.anewarray 9, 3) := by decide +kernel
theorem dX2_init_26 : decode cX2_init 26 = .ok (.putfield 20, 3) := by decide +kernel
theorem dX2_init_29 : decode cX2_init 29 = .ok (.aload_n 0, 1) := by decide +kernel
theorem dX2_init_30 : decode cX2_init 30 = .ok (.bipush 16, 2) := by decide +kernel
theorem dX2_init_32 : decode cX2_init 32 = .ok (.anewarray 9, 3) := by decide +kernel
theorem dX2_init_35 : decode cX2_init 35 = .ok (.putfield 23, 3) := by decide +kernel
theorem dX2_init_38 : decode cX2_init 38 = .ok (.iconst 0, 1) := by decide +kernel
theorem dX2_init_39 : decode cX2_init 39 = .ok (.istore_n 1, 1) := by decide +kernel
theorem dX2_init_40 : decode cX2_init 40 = .ok (.iload_n 1, 1) := by decide +kernel
theorem dX2_init_41 : decode cX2_init 41 = .ok (.iconst 5, 1) := by decide +kernel
theorem dX2_init_42 : decode cX2_init 42 = .ok (.if_icmp .ge 35, 3) := by decide +kernel
theorem dX2_init_45 : decode cX2_init 45 = .ok (.aload_n 0, 1) := by decide +kernel
theorem dX2_init_46 : decode cX2_init 46 = .ok (.getfield 11, 3) := by decide +kernel
theorem dX2_init_49 : decode cX2_init 49 = .ok (.iload_n 1, 1) := by decide +kernel
theorem dX2_init_50 : decode cX2_init 50 = .ok (.new 9, 3) := by decide +kernel
theorem dX2_init_53 : decode cX2_init 53 = .ok (.dup, 1) := by decide +kernel
theorem dX2_init_54 : decode cX2_init 54 = .ok (.invokespecial 26, 3) := by decide +kernel
theorem dX2_init_57 : decode cX2_init 57 = .ok (.aastore, 1) := by decide +kernel
theorem dX2_init_58 : decode cX2_init 58 = .ok (.aload_n 0, 1) := by decide +kernel
theorem dX2_init_59 : decode cX2_init 59 = .ok (.getfield 17, 3) := by decide +kernel
theorem dX2_init_62 : decode cX2_init 62 = .ok (.iload_n 1, 1) := by decide +kernel
theorem dX2_init_63 : decode cX2_init 63 = .ok (.new 9, 3) := by decide +kernel
theorem dX2_init_66 : decode cX2_init 66 = .ok (.dup, 1) := by decide +kernel
theorem dX2_init_67 : decode cX2_init 67 = .ok (.invokespecial 26, 3) := by decide +kernel
theorem dX2_init_70 : decode cX2_init 70 = .ok (.aastore, 1) := by decide +kernel
theorem dX2_init_71 : decode cX2_init 71 = .ok (.iinc 1 1, 3) := by decide +kernel
theorem dX2_init_74 : decode cX2_init 74 = .ok (.goto (-34), 3) := by decide +kernel
theorem dX2_init_77 : decode cX2_init 77 = .ok (.iconst 0, 1) := by decide +kernel
theorem dX2_init_78 : decode cX2_init 78 = .ok (.istore_n 1, 1) := by decide +kernel
theorem dX2_init_79 : decode cX2_init 79 = .ok (.iload_n 1, 1) := by decide +kernel
theorem dX2_init_80 : decode cX2_init 80 = .ok (.iconst 4, 1) := by decide +kernel
theorem dX2_init_81 : decode cX2_init 81 = .ok (.if_icmp .ge 52, 3) := by decide +kernel
theorem dX2_init_84 : decode cX2_init 84 = .ok (.iload_n 1, 1) := by decide +kernel
theorem dX2_init_85 : decode cX2_init 85 = .ok (.istore_n 2, 1) := by decide +kernel
theorem dX2_init_86 : decode cX2_init 86 = .ok (.iload_n 2, 1) := by decide +kernel
theorem dX2_init_87 : decode cX2_init 87 = .ok (.iconst 4, 1) := by decide +kernel
theorem dX2_init_88 : decode cX2_init 88 = .ok (.if_icmp .ge 39, 3) := by decide +kernel
theorem dX2_init_91 : decode cX2_init 91 = .ok (.new 9, 3) := by decide +kernel
theorem dX2_init_94 : decode cX2_init 94 = .ok (.dup, 1) := by decide +kernel
theorem dX2_init_95 : decode cX2_init 95 = .ok (.invokespecial 26, 3) := by decide +kernel
theorem dX2_init_98 : decode cX2_init 98 = .ok (.astore_n 3, 1) := by decide +kernel
theorem dX2_init_99 : decode cX2_init 99 = .ok (.aload_n 0, 1) := by decide +kernel
theorem dX2_init_100 : decode cX2_init 100 = .ok (.getfield 20, 3) := by decide +kernel
theorem dX2_init_103 : decode cX2_init 103 = .ok (.iload_n 1, 1) := by decide +kernel
theorem dX2_init_104 : decode cX2_init 104 = .ok (.iconst 4, 1) := by decide +kernel
theorem dX2_init_105 : decode cX2_init 105 = .ok (.imul, 1) := by decide +kernel
theorem dX2_init_106 : decode cX2_init 106 = .ok (.iload_n 2, 1) := by decide +kernel
theorem dX2_init_107 : decode cX2_init 107 = .ok (.iadd, 1) := by decide +kernel
theorem dX2_init_108 : decode cX2_init 108 = .ok (.aload_n 3, 1) := by decide +kernel
theorem dX2_init_109 : decode cX2_init 109 = .ok (.aastore, 1) := by decide +kernel
theorem dX2_init_110 : decode cX2_init 110 = .ok (.aload_n 0, 1) := by decide +kernel
theorem dX2_init_111 : decode cX2_init 111 = .ok (.getfield 20, 3) := by decide +kernel
theorem dX2_init_114 : decode cX2_init 114 = .ok (.iload_n 2, 1) := by decide +kernel
theorem dX2_init_115 : decode cX2_init 115 = .ok (.iconst 4, 1) := by decide +kernel
theorem dX2_init_116 : decode cX2_init 116 = .ok (.imul, 1) := by decide +kernel
theorem dX2_init_117 : decode cX2_init 117 = .ok (.iload_n 1, 1) := by decide +kernel
theorem dX2_init_118 : decode cX2_init 118 = .ok (.iadd, 1) := by decide +kernel
theorem dX2_init_119 : decode cX2_init 119 = .ok (.aload_n 3, 1) := by decide +kernel
theorem dX2_init_120 : decode cX2_init 120 = .ok (.aastore, 1) := by decide +kernel
theorem dX2_init_121 : decode cX2_init 121 = .ok (.iinc 2 1, 3) := by decide +kernel
theorem dX2_init_124 : decode cX2_init 124 = .ok (.goto (-38), 3) := by decide +kernel
theorem dX2_init_127 : decode cX2_init 127 = .ok (.iinc 1 1, 3) := by decide +kernel
theorem dX2_init_130 : decode cX2_init 130 = .ok (.goto (-51), 3) := by decide +kernel
theorem dX2_init_133 : decode cX2_init 133 = .ok (.iconst 0, 1) := by decide +kernel
theorem dX2_init_134 : decode cX2_init 134 = .ok (.istore_n 1, 1) := by decide +kernel
theorem dX2_init_135 : decode cX2_init 135 = .ok (.iload_n 1, 1) := by decide +kernel
theorem dX2_init_136 : decode cX2_init 136 = .ok (.aload_n 0, 1) := by decide +kernel
theorem dX2_init_137 : decode cX2_init 137 = .ok (.getfield 23, 3) := by decide +kernel
theorem dX2_init_140 : decode cX2_init 140 = .ok (.arraylength, 1) := by decide +kernel
theorem dX2_init_141 : decode cX2_init 141 = .ok (.if_icmp .ge 22, 3) := by decide +kernel
theorem dX2_init_144 : decode cX2_init 144 = .ok (.aload_n 0, 1) := by decide +kernel
theorem dX2_init_145 : decode cX2_init 145 = .ok (.getfield 23, 3) := by decide +kernel
theorem dX2_init_148 : decode cX2_init 148 = .ok (.iload_n 1, 1) := by decide +kernel
theorem dX2_init_149 : decode cX2_init 149 = .ok (.new 9, 3) := by decide +kernel
theorem dX2_init_152 : decode cX2_init 152 = .ok (.dup, 1) := by decide +kernel
theorem dX2_init_153 : decode cX2_init 153 = .ok (.invokespecial 26, 3) := by decide +kernel
theorem dX2_init_156 : decode cX2_init 156 = .ok (.aastore, 1) := by decide +kernel
theorem dX2_init_157 : decode cX2_init 157 = .ok (.iinc 1 1, 3) := by decide +kernel
theorem dX2_init_160 : decode cX2_init 160 = .ok (.goto (-25), 3) := by decide +kernel
theorem dX2_init_163 : decode cX2_init 163 = .ok (.return_, 1) := by decide +kernel
set_option maxHeartbeats 4000000 in
set_option maxRecDepth 100000 in
theorem ct_X2_init (l : Launch) (D : va_G) (ce : Nat → ClassId) (h0 : Nat) : Ct l yX2_init cX2_init 4 none { frames := 2, cells := 76, slots := 1122, locals := 32 } 76 1122 D (TY ce) [.ref h0] [(h0, .inr (2, [.null, .null, .null, .null]))] (QV D (TY ce) (fun w1 => ∃ g : Nat → Nat, ∃ f1 : Nat → Option Nat, ∃ f2 : Nat → Option Nat, ∃ f3 : Nat → Option Nat, ∃ f4 : Nat → Option Nat, ∃ pl : Nat → Nat, ∃ ar : Nat → Nat, w1 = (elE ce h0 g f1 f2 f3 f4 ++ ppF ce pl ar) ∧ (∀ i, i < 5 → f1 i = some (pl (2 * i))) ∧ (∀ i, i < 5 → f2 i = some (pl (2 * i + 1))) ∧ (∀ i, i < 16 → f3 i = some (pl (10 + tri i))) ∧ (∀ i, i < 16 → f4 i = some (pl (20 + i))))) := by
  refine Ct.ofV (by decide) (Nat.le_of_ble_eq_true rfl) ?_
  intro p e s m args below meth c A Q hX hnm hR
  refine Z.pick (lv' := [(0, .ref h0)]) [0] rfl ?_
  refine Z.aload_n hX dX2_init_0 rfl rfl ?_
  refine Z.objI hX dX2_init_1 ml_X2_3 im_obj mc_obj (by decide) (by decide) ?_
  refine Z.aload_n hX dX2_init_4 rfl rfl ?_
  refine Z.iconst hX dX2_init_5 ?_
  refine Z.anew (N := 5) hX 4 dX2_init_6 rfl cl_X2_9 rfl (by decide) (Nat.le_of_ble_eq_true rfl) (Nat.le_of_ble_eq_true rfl) ?_
  intro q1
  refine Z.toW (w' := (h0, .inr (2, [.null, .null, .null, .null])) :: (([]) ++ [(q1, .inl (ce 4, 5, .inr (.inr (.inr (.inr (fun _ => none))))))])) rfl ?_
  refine Z.putF (ty := tyX2 0) hX 2 0 0 tyX2 hnm dX2_init_9 rfl rfl inX2 tyX2_ok nmX2 (by decide) fl_X2_11 rfl rfl rfl (by decide +kernel) rfl rfl (Nat.le_of_ble_eq_true rfl) ?_
  refine Z.toW (w' := (h0, .inr (2, [.ref q1, .null, .null, .null])) :: (([]) ++ [(q1, .inl (ce 4, 5, .inr (.inr (.inr (.inr (fun _ => none))))))])) rfl ?_
  refine Z.aload_n hX dX2_init_12 rfl rfl ?_
  refine Z.iconst hX dX2_init_13 ?_
  refine Z.anew (N := 5) hX 4 dX2_init_14 rfl cl_X2_9 rfl (by decide) (Nat.le_of_ble_eq_true rfl) (Nat.le_of_ble_eq_true rfl) ?_
  intro q2
  refine Z.toW (w' := (h0, .inr (2, [.ref q1, .null, .null, .null])) :: ((([]) ++ [(q1, .inl (ce 4, 5, .inr (.inr (.inr (.inr (fun _ => none))))))]) ++ [(q2, .inl (ce 4, 5, .inr (.inr (.inr (.inr (fun _ => none))))))])) rfl ?_
  refine Z.putF (ty := tyX2 1) hX 2 0 1 tyX2 hnm dX2_init_17 rfl rfl inX2 tyX2_ok nmX2 (by decide) fl_X2_17 rfl rfl rfl (by decide +kernel) rfl rfl (Nat.le_of_ble_eq_true rfl) ?_
  refine Z.toW (w' := (h0, .inr (2, [.ref q1, .ref q2, .null, .null])) :: ((([]) ++ [(q1, .inl (ce 4, 5, .inr (.inr (.inr (.inr (fun _ => none))))))]) ++ [(q2, .inl (ce 4, 5, .inr (.inr (.inr (.inr (fun _ => none))))))])) rfl ?_
  refine Z.aload_n hX dX2_init_20 rfl rfl ?_
  refine Z.bipush hX dX2_init_21 (by decide) ?_
  refine Z.anew (N := 16) hX 4 dX2_init_23 rfl cl_X2_9 rfl (by decide) (Nat.le_of_ble_eq_true rfl) (Nat.le_of_ble_eq_true rfl) ?_
  intro q3
  refine Z.toW (w' := (h0, .inr (2, [.ref q1, .ref q2, .null, .null])) :: (((([]) ++ [(q1, .inl (ce 4, 5, .inr (.inr (.inr (.inr (fun _ => none))))))]) ++ [(q2, .inl (ce 4, 5, .inr (.inr (.inr (.inr (fun _ => none))))))]) ++ [(q3, .inl (ce 4, 16, .inr (.inr (.inr (.inr (fun _ => none))))))])) rfl ?_
  refine Z.putF (ty := tyX2 2) hX 2 0 2 tyX2 hnm dX2_init_26 rfl rfl inX2 tyX2_ok nmX2 (by decide) fl_X2_20 rfl rfl rfl (by decide +kernel) rfl rfl (Nat.le_of_ble_eq_true rfl) ?_
  refine Z.toW (w' := (h0, .inr (2, [.ref q1, .ref q2, .ref q3, .null])) :: (((([]) ++ [(q1, .inl (ce 4, 5, .inr (.inr (.inr (.inr (fun _ => none))))))]) ++ [(q2, .inl (ce 4, 5, .inr (.inr (.inr (.inr (fun _ => none))))))]) ++ [(q3, .inl (ce 4, 16, .inr (.inr (.inr (.inr (fun _ => none))))))])) rfl ?_
  refine Z.aload_n hX dX2_init_29 rfl rfl ?_
  refine Z.bipush hX dX2_init_30 (by decide) ?_
  refine Z.anew (N := 16) hX 4 dX2_init_32 rfl cl_X2_9 rfl (by decide) (Nat.le_of_ble_eq_true rfl) (Nat.le_of_ble_eq_true rfl) ?_
  intro q4
  refine Z.toW (w' := (h0, .inr (2, [.ref q1, .ref q2, .ref q3, .null])) :: ((((([]) ++ [(q1, .inl (ce 4, 5, .inr (.inr (.inr (.inr (fun _ => none))))))]) ++ [(q2, .inl (ce 4, 5, .inr (.inr (.inr (.inr (fun _ => none))))))]) ++ [(q3, .inl (ce 4, 16, .inr (.inr (.inr (.inr (fun _ => none))))))]) ++ [(q4, .inl (ce 4, 16, .inr (.inr (.inr (.inr (fun _ => none))))))])) rfl ?_
  refine Z.putF (ty := tyX2 3) hX 2 0 3 tyX2 hnm dX2_init_35 rfl rfl inX2 tyX2_ok nmX2 (by decide) fl_X2_23 rfl rfl rfl (by decide +kernel) rfl rfl (Nat.le_of_ble_eq_true rfl) ?_
  refine Z.toW (w' := (h0, .inr (2, [.ref q1, .ref q2, .ref q3, .ref q4])) :: ((((([]) ++ [(q1, .inl (ce 4, 5, .inr (.inr (.inr (.inr (fun _ => none))))))]) ++ [(q2, .inl (ce 4, 5, .inr (.inr (.inr (.inr (fun _ => none))))))]) ++ [(q3, .inl (ce 4, 16, .inr (.inr (.inr (.inr (fun _ => none))))))]) ++ [(q4, .inl (ce 4, 16, .inr (.inr (.inr (.inr (fun _ => none))))))])) rfl ?_
  obtain ⟨g, hg⟩ : ∃ g : Nat → Nat, g = fun k => ([q1, q2, q3, q4] : List Nat).getD k 0 := ⟨_, rfl⟩
  refine Z.toW (w' := elE ce h0 g (fun _ => none) (fun _ => none) (fun _ => none) (fun _ => none) ++ pp ce ([])) (by rw [hg]; rfl) ?_
  have key3 : ∀ (N : Nat) (i : Int) (P : List (Nat × Nat)) (f1 f2 f3 f4 : Nat → Option Nat), (16 - i).toNat < N → (0 ≤ i ∧ i ≤ 16) → (P.length : Int) = 20 + i → (∀ n, n < 5 → f1 n = pn P (2 * n)) → (∀ n, n < 5 → f2 n = pn P (2 * n + 1)) → (∀ n, n < 16 → f3 n = pn P (10 + tri n)) → (∀ n : Nat, (n : Int) < i → f4 n = pn P (20 + n)) → Z p l e { frames := 2, cells := 76, slots := 1122, locals := 32 } s m args below meth c D A 4 (4 + 2 * P.length) (42 + 30 * P.length) Q 135 [(1, .int (zI i)), (0, .ref h0)] [] (elE ce h0 g f1 f2 f3 f4 ++ pp ce P) := by
    intro N
    induction N with
    | zero => intro i P f1 f2 f3 f4 hm; exact absurd hm (Nat.not_lt_zero _)
    | succ N ih =>
      intro i P f1 f2 f3 f4 hm hi hl e1 e2 e3 e4
      refine Z.iload_n hX dX2_init_135 rfl rfl ?_
      refine Z.aload_n hX dX2_init_136 rfl rfl ?_
      refine Z.getf hX 2 0 3 dX2_init_137 rfl rfl inX2 (by decide) fl_X2_23 rfl rfl ?_
      refine Z.alen hX 4 4 dX2_init_140 rfl rfl ?_
      refine Z.icmp_ge hX 163 dX2_init_141 (by decide) ⟨by omega, by omega⟩ ⟨by show (-2147483648 : Int) ≤ 16; decide, by show (16 : Int) < 2147483648; decide⟩ ?_ ?_
      · intro hc
        have hc : (16 : Int) ≤ i := hc
        have hl36 : P.length = 36 := by omega
        refine Z.widen (k := 76) (n := 1122) (by omega) (by omega) ?_
        refine Z.toW (w' := elE ce h0 g f1 f2 f3 f4 ++ ppF ce (fun k => (P.getD k (0, 0)).1) (fun k => (P.getD k (0, 0)).2)) (by rw [pp_all hl36]) ?_
        exact hR _ _ _ dX2_init_163 (el_done hl36 e1 e2 e3 (fun n hn => e4 n (by omega)))
      · intro hc
        have hc : ¬ (16 : Int) ≤ i := by first | exact hc | (have hc : i < (16 : Int) := hc; omega)
        refine Z.aload_n hX dX2_init_144 rfl rfl ?_
        refine Z.getf hX 2 0 3 dX2_init_145 rfl rfl inX2 (by decide) fl_X2_23 rfl rfl ?_
        refine Z.iload_n hX dX2_init_148 rfl rfl ?_
        refine Z.mkPl hX dX2_init_149 dX2_init_152 dX2_init_153 cl_X2_9 ns_X2_26 ⟨Nat.le_of_ble_eq_true rfl, Nat.le_of_ble_eq_true rfl⟩ (by show _ ≤ 76; omega) (by show _ ≤ 1122; omega) (Nat.le_of_ble_eq_true rfl) ?_
        intro q r
        refine Z.toW (w' := elE ce h0 g f1 f2 f3 f4 ++ pp ce ((P ++ [(q, r)]))) el_snoc ?_
        have lq : (P ++ [(q, r)]).length = P.length + 1 := by simp
        refine Z.widen (k := 4 + 2 * (P ++ [(q, r)]).length) (n := 42 + 30 * (P ++ [(q, r)]).length) (by omega) (by omega) ?_
        refine Z.aast hX 4 4 (5 + 2 * P.length) dX2_init_156 rfl rfl pp_last (by omega) (by omega) (by decide) ?_
        refine Z.toW (w' := elE ce h0 g f1 f2 f3 (va_up f4 (i : Int).toNat (some q)) ++ pp ce ((P ++ [(q, r)]))) rfl ?_
        refine Z.iinc (lv' := [(1, .int (zI (i + 1))), (0, .ref h0)]) hX dX2_init_157 rfl (by decide) rfl ?_
        refine Z.goto hX 135 dX2_init_160 (by decide) ?_
        refine ih (i + 1) (P ++ [(q, r)]) f1 f2 f3 _ (by omega) (by omega) (by omega) (fun n hn => ?_) (fun n hn => ?_) (fun n hn => ?_) (fun n hn => ?_)
        · rw [pn_old (by omega)]; exact e1 n hn
        · rw [pn_old (by omega)]; exact e2 n hn
        · have := tri_lt n; rw [pn_old (by omega)]; exact e3 n hn
        · by_cases h1 : n = (i : Int).toNat
          · rw [h1, up_eq, pn_new (by omega)]
          · rw [up_ne h1, pn_old (by omega)]; exact e4 n (by omega)
  have key2 : ∀ (N : Nat) (i : Int) (P : List (Nat × Nat)) (f1 f2 f3 f4 : Nat → Option Nat), (4 - i).toNat < N → (0 ≤ i ∧ i ≤ 4) → P.length = 10 + bse i.toNat → (∀ n, n < 5 → f1 n = pn P (2 * n)) → (∀ n, n < 5 → f2 n = pn P (2 * n + 1)) → (∀ n, n < 16 → dne i.toNat i.toNat n = true → f3 n = pn P (10 + tri n)) → Z p l e { frames := 2, cells := 76, slots := 1122, locals := 32 } s m args below meth c D A 4 (4 + 2 * P.length) (42 + 30 * P.length) Q 79 [(1, .int (zI i)), (0, .ref h0)] [] (elE ce h0 g f1 f2 f3 f4 ++ pp ce P) := by
    intro N
    induction N with
    | zero => intro i P f1 f2 f3 f4 hm; exact absurd hm (Nat.not_lt_zero _)
    | succ N ih =>
      intro i P f1 f2 f3 f4 hm hi hl e1 e2 e3
      refine Z.iload_n hX dX2_init_79 rfl rfl ?_
      refine Z.iconst hX dX2_init_80 ?_
      refine Z.icmp_ge hX 133 dX2_init_81 (by decide) ⟨by omega, by omega⟩ ⟨by decide, by decide⟩ ?_ ?_
      · intro hc
        have hc : (4 : Int) ≤ i := hc
        refine Z.iconst hX dX2_init_133 ?_
        refine Z.istore_n (lv' := [(1, .int (zI 0)), (0, .ref h0)]) hX dX2_init_134 rfl (by decide) rfl ?_
        have hi4 : i = 4 := by omega
        subst hi4
        exact key3 _ 0 P f1 f2 f3 f4 (Nat.lt_succ_self _) (by omega) (by have : bse (4 : Int).toNat = 10 := rfl; omega) e1 e2 (fun n hn => e3 n hn (dne_a ⟨n, hn⟩)) (fun n hn => by omega)
      · intro hc
        have hc : ¬ (4 : Int) ≤ i := by first | exact hc | (have hc : i < (4 : Int) := hc; omega)
        refine Z.iload_n hX dX2_init_84 rfl rfl ?_
        refine Z.istore_n (lv' := [(2, .int (zI i)), (1, .int (zI i)), (0, .ref h0)]) hX dX2_init_85 rfl (by decide) rfl ?_
        have keyj : ∀ (M : Nat) (j : Int) (P : List (Nat × Nat)) (f1 f2 f3 f4 : Nat → Option Nat), (4 - j).toNat < M → (i ≤ j ∧ j ≤ 4) → P.length = 10 + bse i.toNat + (j.toNat - i.toNat) → (∀ n, n < 5 → f1 n = pn P (2 * n)) → (∀ n, n < 5 → f2 n = pn P (2 * n + 1)) → (∀ n, n < 16 → dne i.toNat j.toNat n = true → f3 n = pn P (10 + tri n)) → Z p l e { frames := 2, cells := 76, slots := 1122, locals := 32 } s m args below meth c D A 4 (4 + 2 * P.length) (42 + 30 * P.length) Q 86 [(2, .int (zI j)), (1, .int (zI i)), (0, .ref h0)] [] (elE ce h0 g f1 f2 f3 f4 ++ pp ce P) := by
          intro M
          induction M with
          | zero => intro j P f1 f2 f3 f4 hm; exact absurd hm (Nat.not_lt_zero _)
          | succ M ihj =>
            intro j P f1 f2 f3 f4 hm hj hl e1 e2 e3
            refine Z.iload_n hX dX2_init_86 rfl rfl ?_
            refine Z.iconst hX dX2_init_87 ?_
            refine Z.icmp_ge hX 127 dX2_init_88 (by decide) ⟨by omega, by omega⟩ ⟨by decide, by decide⟩ ?_ ?_
            · intro hc
              have hc : (4 : Int) ≤ j := hc
              refine Z.iinc (lv' := [(1, .int (zI (i + 1))), (2, .int (zI j)), (0, .ref h0)]) hX dX2_init_127 rfl (by decide) rfl ?_
              refine Z.goto hX 79 dX2_init_130 (by decide) ?_
              refine Z.pick (lv' := [(1, .int (zI (i + 1))), (0, .ref h0)]) [0, 2] rfl ?_
              have hj4 : j = 4 := by omega
              subst hj4
              have hb := bse_e ⟨i.toNat, by omega⟩
              have hs : (i + 1).toNat = i.toNat + 1 := by omega
              refine ih (i + 1) P f1 f2 f3 f4 (by omega) (by omega) (by rw [hs]; have h4 : (4 : Int).toNat = 4 := rfl; rw [h4] at hl; have hb : bse i.toNat + (4 - i.toNat) = bse (i.toNat + 1) := hb; omega) e1 e2 (fun n hn hd => e3 n hn ?_)
              rw [hs] at hd
              exact dne_e ⟨i.toNat, by omega⟩ ⟨n, hn⟩ hd
            · intro hc
              have hc : ¬ (4 : Int) ≤ j := by first | exact hc | (have hc : j < (4 : Int) := hc; omega)
              obtain ⟨t1, t2, t3, t4, t5⟩ := dne_t ⟨i.toNat, by omega⟩ ⟨j.toNat, by omega⟩ (by show i.toNat ≤ j.toNat; omega)
              have t1 : tri (4 * i.toNat + j.toNat) = bse i.toNat + (j.toNat - i.toNat) := t1
              have t2 : tri (4 * j.toNat + i.toNat) = bse i.toNat + (j.toNat - i.toNat) := t2
              have t4 : 4 * j.toNat + i.toNat < 16 := t4
              have t5 : 4 * i.toNat + j.toNat < 16 := t5
              have tl := tri_lt (4 * i.toNat + j.toNat)
              refine Z.mkPl hX dX2_init_91 dX2_init_94 dX2_init_95 cl_X2_9 ns_X2_26 ⟨Nat.le_of_ble_eq_true rfl, Nat.le_of_ble_eq_true rfl⟩ (by show _ ≤ 76; omega) (by show _ ≤ 1122; omega) (Nat.le_of_ble_eq_true rfl) ?_
              intro q r
              refine Z.toW (w' := elE ce h0 g f1 f2 f3 f4 ++ pp ce ((P ++ [(q, r)]))) el_snoc ?_
              have lq : (P ++ [(q, r)]).length = P.length + 1 := by simp
              refine Z.widen (k := 4 + 2 * (P ++ [(q, r)]).length) (n := 42 + 30 * (P ++ [(q, r)]).length) (by omega) (by omega) ?_
              refine Z.astore_n (lv' := [(3, .ref q), (2, .int (zI j)), (1, .int (zI i)), (0, .ref h0)]) hX dX2_init_98 rfl (by decide) rfl ?_
              refine Z.aload_n hX dX2_init_99 rfl rfl ?_
              refine Z.getf hX 2 0 2 dX2_init_100 rfl rfl inX2 (by decide) fl_X2_20 rfl rfl ?_
              refine Z.iload_n hX dX2_init_103 rfl rfl ?_
              refine Z.iconst hX dX2_init_104 ?_
              refine Z.imul hX dX2_init_105 ?_
              refine Z.iload_n hX dX2_init_106 rfl rfl ?_
              refine Z.iadd hX dX2_init_107 ?_
              refine Z.aload_n hX dX2_init_108 rfl rfl ?_
              refine Z.aast hX 3 4 (5 + 2 * P.length) dX2_init_109 rfl rfl pp_last (by omega) (by omega) (by decide) ?_
              refine Z.toW (w' := elE ce h0 g f1 f2 (va_up f3 (i * 4 + j : Int).toNat (some q)) f4 ++ pp ce ((P ++ [(q, r)]))) rfl ?_
              refine Z.aload_n hX dX2_init_110 rfl rfl ?_
              refine Z.getf hX 2 0 2 dX2_init_111 rfl rfl inX2 (by decide) fl_X2_20 rfl rfl ?_
              refine Z.iload_n hX dX2_init_114 rfl rfl ?_
              refine Z.iconst hX dX2_init_115 ?_
              refine Z.imul hX dX2_init_116 ?_
              refine Z.iload_n hX dX2_init_117 rfl rfl ?_
              refine Z.iadd hX dX2_init_118 ?_
              refine Z.aload_n hX dX2_init_119 rfl rfl ?_
              refine Z.aast hX 3 4 (5 + 2 * P.length) dX2_init_120 rfl rfl pp_last (by omega) (by omega) (by decide) ?_
              refine Z.toW (w' := elE ce h0 g f1 f2 (va_up (va_up f3 (i * 4 + j : Int).toNat (some q)) (j * 4 + i : Int).toNat (some q)) f4 ++ pp ce ((P ++ [(q, r)]))) rfl ?_
              refine Z.iinc (lv' := [(2, .int (zI (j + 1))), (3, .ref q), (1, .int (zI i)), (0, .ref h0)]) hX dX2_init_121 rfl (by decide) rfl ?_
              refine Z.goto hX 86 dX2_init_124 (by decide) ?_
              refine Z.pick (lv' := [(2, .int (zI (j + 1))), (1, .int (zI i)), (0, .ref h0)]) [0, 2, 3] rfl ?_
              refine ihj (j + 1) (P ++ [(q, r)]) f1 f2 _ f4 (by omega) (by omega) (by omega) (fun n hn => ?_) (fun n hn => ?_) (fun n hn hd => ?_)
              · rw [pn_old (by omega)]; exact e1 n hn
              · rw [pn_old (by omega)]; exact e2 n hn
              · by_cases h1 : n = (j * 4 + i : Int).toNat
                · rw [h1, up_eq, pn_new (by rw [show (j * 4 + i : Int).toNat = 4 * j.toNat + i.toNat by omega, t2]; omega)]
                · rw [up_ne h1]
                  by_cases h2 : n = (i * 4 + j : Int).toNat
                  · rw [h2, up_eq, pn_new (by rw [show (i * 4 + j : Int).toNat = 4 * i.toNat + j.toNat by omega, t1]; omega)]
                  · rw [up_ne h2]
                    have hs : (j + 1).toNat = j.toNat + 1 := by omega
                    rw [hs] at hd
                    rcases dne_s ⟨i.toNat, by omega⟩ ⟨j.toNat, by omega⟩ ⟨n, hn⟩ (by show i.toNat ≤ j.toNat; omega) hd with h3 | h3 | h3
                    · exact absurd (show n = (i * 4 + j : Int).toNat by have h3 : n = 4 * i.toNat + j.toNat := h3; omega) h2
                    · exact absurd (show n = (j * 4 + i : Int).toNat by have h3 : n = 4 * j.toNat + i.toNat := h3; omega) h1
                    · have h4 := dne_l ⟨i.toNat, by omega⟩ ⟨j.toNat, by omega⟩ ⟨n, hn⟩ (by show i.toNat ≤ j.toNat; omega) h3
                      have h4 : tri n < bse i.toNat + (j.toNat - i.toNat) := h4
                      rw [pn_old (by omega)]
                      exact e3 n hn h3
        exact keyj _ i P f1 f2 f3 f4 (Nat.lt_succ_self _) (by omega) (by omega) e1 e2 e3
  have key1 : ∀ (N : Nat) (i : Int) (P : List (Nat × Nat)) (f1 f2 f3 f4 : Nat → Option Nat), (5 - i).toNat < N → (0 ≤ i ∧ i ≤ 5) → (P.length : Int) = 2 * i → (∀ n : Nat, (n : Int) < i → f1 n = pn P (2 * n)) → (∀ n : Nat, (n : Int) < i → f2 n = pn P (2 * n + 1)) → Z p l e { frames := 2, cells := 76, slots := 1122, locals := 32 } s m args below meth c D A 4 (4 + 2 * P.length) (42 + 30 * P.length) Q 40 [(1, .int (zI i)), (0, .ref h0)] [] (elE ce h0 g f1 f2 f3 f4 ++ pp ce P) := by
    intro N
    induction N with
    | zero => intro i P f1 f2 f3 f4 hm; exact absurd hm (Nat.not_lt_zero _)
    | succ N ih =>
      intro i P f1 f2 f3 f4 hm hi hl e1 e2
      refine Z.iload_n hX dX2_init_40 rfl rfl ?_
      refine Z.iconst hX dX2_init_41 ?_
      refine Z.icmp_ge hX 77 dX2_init_42 (by decide) ⟨by omega, by omega⟩ ⟨by decide, by decide⟩ ?_ ?_
      · intro hc
        have hc : (5 : Int) ≤ i := hc
        refine Z.iconst hX dX2_init_77 ?_
        refine Z.istore_n (lv' := [(1, .int (zI 0)), (0, .ref h0)]) hX dX2_init_78 rfl (by decide) rfl ?_
        exact key2 _ 0 P f1 f2 f3 f4 (Nat.lt_succ_self _) (by omega) (by have : bse (0 : Int).toNat = 0 := rfl; omega) (fun n hn => e1 n (by omega)) (fun n hn => e2 n (by omega)) (fun n hn hd => by have := dne_0 ⟨n, hn⟩; rw [show (0 : Int).toNat = 0 from rfl] at hd; rw [show dne 0 0 n = false from this] at hd; cases hd)
      · intro hc
        have hc : ¬ (5 : Int) ≤ i := by first | exact hc | (have hc : i < (5 : Int) := hc; omega)
        refine Z.aload_n hX dX2_init_45 rfl rfl ?_
        refine Z.getf hX 2 0 0 dX2_init_46 rfl rfl inX2 (by decide) fl_X2_11 rfl rfl ?_
        refine Z.iload_n hX dX2_init_49 rfl rfl ?_
        refine Z.mkPl hX dX2_init_50 dX2_init_53 dX2_init_54 cl_X2_9 ns_X2_26 ⟨Nat.le_of_ble_eq_true rfl, Nat.le_of_ble_eq_true rfl⟩ (by show _ ≤ 76; omega) (by show _ ≤ 1122; omega) (Nat.le_of_ble_eq_true rfl) ?_
        intro q r
        refine Z.toW (w' := elE ce h0 g f1 f2 f3 f4 ++ pp ce ((P ++ [(q, r)]))) el_snoc ?_
        have lq : (P ++ [(q, r)]).length = P.length + 1 := by simp
        refine Z.widen (k := 4 + 2 * (P ++ [(q, r)]).length) (n := 42 + 30 * (P ++ [(q, r)]).length) (by omega) (by omega) ?_
        refine Z.aast hX 1 4 (5 + 2 * P.length) dX2_init_57 rfl rfl pp_last (by omega) (by omega) (by decide) ?_
        refine Z.toW (w' := elE ce h0 g (va_up f1 (i : Int).toNat (some q)) f2 f3 f4 ++ pp ce ((P ++ [(q, r)]))) rfl ?_
        refine Z.aload_n hX dX2_init_58 rfl rfl ?_
        refine Z.getf hX 2 0 1 dX2_init_59 rfl rfl inX2 (by decide) fl_X2_17 rfl rfl ?_
        refine Z.iload_n hX dX2_init_62 rfl rfl ?_
        refine Z.mkPl hX dX2_init_63 dX2_init_66 dX2_init_67 cl_X2_9 ns_X2_26 ⟨Nat.le_of_ble_eq_true rfl, Nat.le_of_ble_eq_true rfl⟩ (by show _ ≤ 76; omega) (by show _ ≤ 1122; omega) (Nat.le_of_ble_eq_true rfl) ?_
        intro q2 r2
        refine Z.toW (w' := elE ce h0 g (va_up f1 (i : Int).toNat (some q)) f2 f3 f4 ++ pp ce (((P ++ [(q, r)]) ++ [(q2, r2)]))) el_snoc ?_
        have lq2 : ((P ++ [(q, r)]) ++ [(q2, r2)]).length = (P ++ [(q, r)]).length + 1 := by simp
        refine Z.widen (k := 4 + 2 * ((P ++ [(q, r)]) ++ [(q2, r2)]).length) (n := 42 + 30 * ((P ++ [(q, r)]) ++ [(q2, r2)]).length) (by omega) (by omega) ?_
        refine Z.aast hX 2 4 (5 + 2 * (P ++ [(q, r)]).length) dX2_init_70 rfl rfl pp_last (by omega) (by omega) (by decide) ?_
        refine Z.toW (w' := elE ce h0 g (va_up f1 (i : Int).toNat (some q)) (va_up f2 (i : Int).toNat (some q2)) f3 f4 ++ pp ce (((P ++ [(q, r)]) ++ [(q2, r2)]))) rfl ?_
        refine Z.iinc (lv' := [(1, .int (zI (i + 1))), (0, .ref h0)]) hX dX2_init_71 rfl (by decide) rfl ?_
        refine Z.goto hX 40 dX2_init_74 (by decide) ?_
        refine ih (i + 1) ((P ++ [(q, r)]) ++ [(q2, r2)]) _ _ f3 f4 (by omega) (by omega) (by omega) (fun n hn => ?_) (fun n hn => ?_)
        · by_cases h1 : n = (i : Int).toNat
          · rw [h1, up_eq, pn_old (by omega), pn_new (by omega)]
          · rw [up_ne h1, pn_old (by omega), pn_old (by omega)]; exact e1 n (by omega)
        · by_cases h1 : n = (i : Int).toNat
          · rw [h1, up_eq, pn_new (by omega)]
          · rw [up_ne h1, pn_old (by omega), pn_old (by omega)]; exact e2 n (by omega)
  refine Z.iconst hX dX2_init_38 ?_
  refine Z.istore_n (lv' := [(1, .int (zI 0)), (0, .ref h0)]) hX dX2_init_39 rfl (by decide) rfl ?_
  exact key1 _ 0 [] _ _ _ _ (Nat.lt_succ_self _) (by omega) rfl (fun n hn => by omega) (fun n hn => by omega)
end
section
theorem dX6_init_0 : decode cX6_init 0 = .ok (.aload_n 0, 1) := by decide +kernel
theorem dX6_init_1 : decode cX6_init 1 = .ok (.invokespecial 1, 3) := by decide +kernel
theorem dX6_init_4 : decode cX6_init 4 = .ok (.aload_n 0, 1) := by decide +kernel
theorem dX6_init_5 : decode cX6_init 5 = .ok (.new 7, 3) := by decide +kernel
theorem dX6_init_8 : decode cX6_init 8 = .ok (.dup, 1) := by decide +kernel
theorem dX6_init_9 : decode cX6_init 9 = .ok (.invokespecial 9, 3) := by decide +kernel
theorem dX6_init_12 : decode cX6_init 12 = .ok (.putfield 10, 3) := by decide +kernel
theorem dX6_init_15 : decode cX6_init 15 = .ok (.aload_n 0, 1) := by decide +kernel
theorem dX6_init_16 : decode cX6_init 16 = .ok (.new 7, 3) := by decide +kernel
theorem dX6_init_19 : decode cX6_init 19 = .ok (.dup, 1) := by decide +kernel
theorem dX6_init_20 : decode cX6_init 20 = .ok (.invokespecial 9, 3) := by decide +kernel
theorem dX6_init_23 : decode cX6_init 23 = .ok (.putfield 16, 3) := by decide +kernel
theorem dX6_init_26 : decode cX6_init 26 = .ok (.aload_n 0, 1) := by decide +kernel
theorem dX6_init_27 : decode cX6_init 27 = .ok (.new 19, 3) := by decide +kernel
theorem dX6_init_30 : decode cX6_init 30 = .ok (.dup, 1) := by decide +kernel
theorem dX6_init_31 : decode cX6_init 31 = .ok (.invokespecial 21, 3) := by decide +kernel
theorem dX6_init_34 : decode cX6_init 34 = .ok (.putfield 22, 3) := by decide +kernel
theorem dX6_init_37 : decode cX6_init 37 = .ok (.aload_n 0, 1) := by decide +kernel
theorem dX6_init_38 : decode cX6_init 38 = .ok (.new 26, 3) := by decide +kernel
theorem dX6_init_41 : decode cX6_init 41 = .ok (.dup, 1) := by decide +kernel
theorem dX6_init_42 : decode cX6_init 42 = .ok (.invokespecial 28, 3) := by decide +kernel
theorem dX6_init_45 : decode cX6_init 45 = .ok (.putfield 29, 3) := by decide +kernel
theorem dX6_init_48 : decode cX6_init 48 = .ok (.aload_n 0, 1) := by decide +kernel
theorem dX6_init_49 : decode cX6_init 49 = .ok (.new 33, 3) := by decide +kernel
theorem dX6_init_52 : decode cX6_init 52 = .ok (.dup, 1) := by decide +kernel
theorem dX6_init_53 : decode cX6_init 53 = .ok (.invokespecial 35, 3) := by decide +kernel
theorem dX6_init_56 : decode cX6_init 56 = .ok (.putfield 36, 3) := by decide +kernel
theorem dX6_init_59 : decode cX6_init 59 = .ok (.aload_n 0, 1) := by decide +kernel
theorem dX6_init_60 : decode cX6_init 60 = .ok (.new 40, 3) := by decide +kernel
theorem dX6_init_63 : decode cX6_init 63 = .ok (.dup, 1) := by decide +kernel
theorem dX6_init_64 : decode cX6_init 64 = .ok (.invokespecial 42, 3) := by decide +kernel
theorem dX6_init_67 : decode cX6_init 67 = .ok (.putfield 43, 3) := by decide +kernel
theorem dX6_init_70 : decode cX6_init 70 = .ok (.aload_n 0, 1) := by decide +kernel
theorem dX6_init_71 : decode cX6_init 71 = .ok (.new 40, 3) := by decide +kernel
theorem dX6_init_74 : decode cX6_init 74 = .ok (.dup, 1) := by decide +kernel
theorem dX6_init_75 : decode cX6_init 75 = .ok (.invokespecial 42, 3) := by decide +kernel
theorem dX6_init_78 : decode cX6_init 78 = .ok (.putfield 47, 3) := by decide +kernel
theorem dX6_init_81 : decode cX6_init 81 = .ok (.aload_n 0, 1) := by decide +kernel
theorem dX6_init_82 : decode cX6_init 82 = .ok (.iconst 3, 1) := by decide +kernel
theorem dX6_init_83 : decode cX6_init 83 = .ok (.newarray .long, 2) := by decide +kernel
theorem dX6_init_85 : decode cX6_init 85 = .ok (.putfield 50, 3) := by decide +kernel
theorem dX6_init_88 : decode cX6_init 88 = .ok (.aload_n 0, 1) := by decide +kernel
theorem dX6_init_89 : decode cX6_init 89 = .ok (.iconst 0, 1) := by decide +kernel
theorem dX6_init_90 : decode cX6_init 90 = .ok (.putfield 54, 3) := by decide +kernel
theorem dX6_init_93 : decode cX6_init 93 = .ok (.return_, 1) := by decide +kernel
set_option maxHeartbeats 4000000 in
set_option maxRecDepth 100000 in
theorem ct_X6_init (l : Launch) (D : va_G) (ce : Nat → ClassId) (h0 : Nat) : Ct l yX6_init cX6_init 1 none { frames := 3, cells := 107, slots := 1377, locals := 80 } 107 1377 D (TY ce) [.ref h0] [(h0, .inr (6, [.null, .null, .null, .null, .null, .null, .null, .null, .int (zI 0)]))] (QV D (TY ce) (fun w1 => ∃ h pl ar : Nat → Nat, w1 = cW ce h pl ar (fun _ => 0) (fun _ _ => 0) (fun _ => 0) (fun _ _ => 0) ∧ h 0 = h0)) := by
  refine Ct.ofV (by decide) (Nat.le_of_ble_eq_true rfl) ?_
  intro p e s m args below meth c A Q hX hnm hR
  refine Z.pick (lv' := [(0, .ref h0)]) [0] rfl ?_
  refine Z.aload_n hX dX6_init_0 rfl rfl ?_
  refine Z.objI hX dX6_init_1 ml_X6_1 im_obj mc_obj (by decide) (by decide) ?_
  refine Z.aload_n hX dX6_init_4 rfl rfl ?_
  refine Z.newO (fs := [.null]) hX 5 tyX5 dX6_init_5 rfl inX5 tyX5_ok cl_X6_7 ins_X5 ini_X5 df_X5 (Nat.le_of_ble_eq_true rfl) (Nat.le_of_ble_eq_true rfl) ?_
  intro a1
  refine Z.dup hX dX6_init_8 rfl ?_
  refine Z.initN (wr := (h0, .inr (6, [.null, .null, .null, .null, .null, .null, .null, .null, .int (zI 0)])) :: ([])) hX (ct_X5_init l D ce a1) mc_X5_init ns_X6_9 rfl im_X5_init ini_X5 nd_X5_init ⟨Nat.le_of_ble_eq_true rfl, Nat.le_of_ble_eq_true rfl⟩ ⟨rfl, rfl⟩ ⟨Nat.le_of_ble_eq_true rfl, Nat.le_of_ble_eq_true rfl⟩ (Nat.le_of_ble_eq_true rfl) dX6_init_9 ?_
  rintro w1 ⟨r2, hw_⟩
  subst hw_
  refine Z.toW (w' := (h0, .inr (6, [.null, .null, .null, .null, .null, .null, .null, .null, .int (zI 0)])) :: (([]) ++ rowW ce a1 r2 (fun i => some (r2 + 1 + i)))) rfl ?_
  refine Z.putF (ty := tyX6 0) hX 6 0 0 tyX6 hnm dX6_init_12 rfl rfl inX6 tyX6_ok nmX6 (by decide) fl_X6_10 rfl rfl rfl (by decide +kernel) rfl rfl (Nat.le_of_ble_eq_true rfl) ?_
  refine Z.toW (w' := (h0, .inr (6, [.ref a1, .null, .null, .null, .null, .null, .null, .null, .int (zI 0)])) :: (([]) ++ rowW ce a1 r2 (fun i => some (r2 + 1 + i)))) rfl ?_
  refine Z.aload_n hX dX6_init_15 rfl rfl ?_
  refine Z.newO (fs := [.null]) hX 5 tyX5 dX6_init_16 rfl inX5 tyX5_ok cl_X6_7 ins_X5 ini_X5 df_X5 (Nat.le_of_ble_eq_true rfl) (Nat.le_of_ble_eq_true rfl) ?_
  intro a3
  refine Z.dup hX dX6_init_19 rfl ?_
  refine Z.initN (wr := (h0, .inr (6, [.ref a1, .null, .null, .null, .null, .null, .null, .null, .int (zI 0)])) :: (([]) ++ rowW ce a1 r2 (fun i => some (r2 + 1 + i)))) hX (ct_X5_init l D ce a3) mc_X5_init ns_X6_9 rfl im_X5_init ini_X5 nd_X5_init ⟨Nat.le_of_ble_eq_true rfl, Nat.le_of_ble_eq_true rfl⟩ ⟨rfl, rfl⟩ ⟨Nat.le_of_ble_eq_true rfl, Nat.le_of_ble_eq_true rfl⟩ (Nat.le_of_ble_eq_true rfl) dX6_init_20 ?_
  rintro w1 ⟨r4, hw_⟩
  subst hw_
  refine Z.toW (w' := (h0, .inr (6, [.ref a1, .null, .null, .null, .null, .null, .null, .null, .int (zI 0)])) :: ((([]) ++ rowW ce a1 r2 (fun i => some (r2 + 1 + i))) ++ rowW ce a3 r4 (fun i => some (r4 + 1 + i)))) rfl ?_
  refine Z.putF (ty := tyX6 1) hX 6 0 1 tyX6 hnm dX6_init_23 rfl rfl inX6 tyX6_ok nmX6 (by decide) fl_X6_16 rfl rfl rfl (by decide +kernel) rfl rfl (Nat.le_of_ble_eq_true rfl) ?_
  refine Z.toW (w' := (h0, .inr (6, [.ref a1, .ref a3, .null, .null, .null, .null, .null, .null, .int (zI 0)])) :: ((([]) ++ rowW ce a1 r2 (fun i => some (r2 + 1 + i))) ++ rowW ce a3 r4 (fun i => some (r4 + 1 + i)))) rfl ?_
  refine Z.aload_n hX dX6_init_26 rfl rfl ?_
  refine Z.newO (fs := [.null, .null, .null]) hX 1 tyX1 dX6_init_27 rfl inX1 tyX1_ok cl_X6_19 ins_X1 ini_X1 df_X1 (Nat.le_of_ble_eq_true rfl) (Nat.le_of_ble_eq_true rfl) ?_
  intro a5
  refine Z.dup hX dX6_init_30 rfl ?_
  refine Z.initN (wr := (h0, .inr (6, [.ref a1, .ref a3, .null, .null, .null, .null, .null, .null, .int (zI 0)])) :: ((([]) ++ rowW ce a1 r2 (fun i => some (r2 + 1 + i))) ++ rowW ce a3 r4 (fun i => some (r4 + 1 + i)))) hX (ct_X1_init l D ce a5) mc_X1_init ns_X6_21 rfl im_X1_init ini_X1 nd_X1_init ⟨Nat.le_of_ble_eq_true rfl, Nat.le_of_ble_eq_true rfl⟩ ⟨rfl, rfl⟩ ⟨Nat.le_of_ble_eq_true rfl, Nat.le_of_ble_eq_true rfl⟩ (Nat.le_of_ble_eq_true rfl) dX6_init_31 ?_
  rintro w1 ⟨g6, hw_⟩
  subst hw_
  refine Z.toW (w' := (h0, .inr (6, [.ref a1, .ref a3, .null, .null, .null, .null, .null, .null, .int (zI 0)])) :: (((([]) ++ rowW ce a1 r2 (fun i => some (r2 + 1 + i))) ++ rowW ce a3 r4 (fun i => some (r4 + 1 + i))) ++ divW ce a5 g6)) rfl ?_
  refine Z.putF (ty := tyX6 2) hX 6 0 2 tyX6 hnm dX6_init_34 rfl rfl inX6 tyX6_ok nmX6 (by decide) fl_X6_22 rfl rfl rfl (by decide +kernel) rfl rfl (Nat.le_of_ble_eq_true rfl) ?_
  refine Z.toW (w' := (h0, .inr (6, [.ref a1, .ref a3, .ref a5, .null, .null, .null, .null, .null, .int (zI 0)])) :: (((([]) ++ rowW ce a1 r2 (fun i => some (r2 + 1 + i))) ++ rowW ce a3 r4 (fun i => some (r4 + 1 + i))) ++ divW ce a5 g6)) rfl ?_
  refine Z.aload_n hX dX6_init_37 rfl rfl ?_
  refine Z.newO (fs := [.null, .null, .null, .null]) hX 2 tyX2 dX6_init_38 rfl inX2 tyX2_ok cl_X6_26 ins_X2 ini_X2 df_X2 (Nat.le_of_ble_eq_true rfl) (Nat.le_of_ble_eq_true rfl) ?_
  intro a7
  refine Z.dup hX dX6_init_41 rfl ?_
  refine Z.initP (wr := (h0, .inr (6, [.ref a1, .ref a3, .ref a5, .null, .null, .null, .null, .null, .int (zI 0)])) :: (((([]) ++ rowW ce a1 r2 (fun i => some (r2 + 1 + i))) ++ rowW ce a3 r4 (fun i => some (r4 + 1 + i))) ++ divW ce a5 g6)) hX (ct_X2_init l D ce a7) mc_X2_init ml_X6_28 rfl im_X2_init ini_X2 nd_X2_init ⟨Nat.le_of_ble_eq_true rfl, Nat.le_of_ble_eq_true rfl⟩ ⟨rfl, rfl⟩ ⟨Nat.le_of_ble_eq_true rfl, Nat.le_of_ble_eq_true rfl⟩ (Nat.le_of_ble_eq_true rfl) dX6_init_42 ?_
  rintro w1 ⟨g8, f19, f210, f311, f412, pl13, ar14, hw_, hp15, hp16, hp17, hp18⟩
  subst hw_
  refine Z.toW (w' := (h0, .inr (6, [.ref a1, .ref a3, .ref a5, .null, .null, .null, .null, .null, .int (zI 0)])) :: ((((([]) ++ rowW ce a1 r2 (fun i => some (r2 + 1 + i))) ++ rowW ce a3 r4 (fun i => some (r4 + 1 + i))) ++ divW ce a5 g6) ++ (elE ce a7 g8 f19 f210 f311 f412 ++ ppF ce pl13 ar14))) rfl ?_
  refine Z.putF (ty := tyX6 3) hX 6 0 3 tyX6 hnm dX6_init_45 rfl rfl inX6 tyX6_ok nmX6 (by decide) fl_X6_29 rfl rfl rfl (by decide +kernel) rfl rfl (Nat.le_of_ble_eq_true rfl) ?_
  refine Z.toW (w' := (h0, .inr (6, [.ref a1, .ref a3, .ref a5, .ref a7, .null, .null, .null, .null, .int (zI 0)])) :: ((((([]) ++ rowW ce a1 r2 (fun i => some (r2 + 1 + i))) ++ rowW ce a3 r4 (fun i => some (r4 + 1 + i))) ++ divW ce a5 g6) ++ (elE ce a7 g8 f19 f210 f311 f412 ++ ppF ce pl13 ar14))) rfl ?_
  refine Z.aload_n hX dX6_init_48 rfl rfl ?_
  refine Z.newO (fs := [.null, .null, .null, .null]) hX 4 tyX4 dX6_init_49 rfl inX4 tyX4_ok cl_X6_33 ins_X4 ini_X4 df_X4 (Nat.le_of_ble_eq_true rfl) (Nat.le_of_ble_eq_true rfl) ?_
  intro a19
  refine Z.dup hX dX6_init_52 rfl ?_
  refine Z.initN (wr := (h0, .inr (6, [.ref a1, .ref a3, .ref a5, .ref a7, .null, .null, .null, .null, .int (zI 0)])) :: ((((([]) ++ rowW ce a1 r2 (fun i => some (r2 + 1 + i))) ++ rowW ce a3 r4 (fun i => some (r4 + 1 + i))) ++ divW ce a5 g6) ++ (elE ce a7 g8 f19 f210 f311 f412 ++ ppF ce pl13 ar14))) hX (ct_X4_init l D ce a19) mc_X4_init ns_X6_35 rfl im_X4_init ini_X4 nd_X4_init ⟨Nat.le_of_ble_eq_true rfl, Nat.le_of_ble_eq_true rfl⟩ ⟨rfl, rfl⟩ ⟨Nat.le_of_ble_eq_true rfl, Nat.le_of_ble_eq_true rfl⟩ (Nat.le_of_ble_eq_true rfl) dX6_init_53 ?_
  rintro w1 ⟨b20, r21, hw_⟩
  subst hw_
  refine Z.toW (w' := (h0, .inr (6, [.ref a1, .ref a3, .ref a5, .ref a7, .null, .null, .null, .null, .int (zI 0)])) :: (((((([]) ++ rowW ce a1 r2 (fun i => some (r2 + 1 + i))) ++ rowW ce a3 r4 (fun i => some (r4 + 1 + i))) ++ divW ce a5 g6) ++ (elE ce a7 g8 f19 f210 f311 f412 ++ ppF ce pl13 ar14)) ++ rfW ce a19 b20 r21)) rfl ?_
  refine Z.putF (ty := tyX6 4) hX 6 0 4 tyX6 hnm dX6_init_56 rfl rfl inX6 tyX6_ok nmX6 (by decide) fl_X6_36 rfl rfl rfl (by decide +kernel) rfl rfl (Nat.le_of_ble_eq_true rfl) ?_
  refine Z.toW (w' := (h0, .inr (6, [.ref a1, .ref a3, .ref a5, .ref a7, .ref a19, .null, .null, .null, .int (zI 0)])) :: (((((([]) ++ rowW ce a1 r2 (fun i => some (r2 + 1 + i))) ++ rowW ce a3 r4 (fun i => some (r4 + 1 + i))) ++ divW ce a5 g6) ++ (elE ce a7 g8 f19 f210 f311 f412 ++ ppF ce pl13 ar14)) ++ rfW ce a19 b20 r21)) rfl ?_
  refine Z.aload_n hX dX6_init_59 rfl rfl ?_
  refine Z.newO (fs := [.null, .int (zI 0), .int (zI 0), .int (zI 0)]) hX 0 tyX0 dX6_init_60 rfl inX0 tyX0_ok cl_X6_40 ins_X0 ini_X0 df_X0 (Nat.le_of_ble_eq_true rfl) (Nat.le_of_ble_eq_true rfl) ?_
  intro a22
  refine Z.dup hX dX6_init_63 rfl ?_
  refine Z.initN (wr := (h0, .inr (6, [.ref a1, .ref a3, .ref a5, .ref a7, .ref a19, .null, .null, .null, .int (zI 0)])) :: (((((([]) ++ rowW ce a1 r2 (fun i => some (r2 + 1 + i))) ++ rowW ce a3 r4 (fun i => some (r4 + 1 + i))) ++ divW ce a5 g6) ++ (elE ce a7 g8 f19 f210 f311 f412 ++ ppF ce pl13 ar14)) ++ rfW ce a19 b20 r21)) hX (ct_X0_init l D ce a22) mc_X0_init ns_X6_42 rfl im_X0_init ini_X0 nd_X0_init ⟨Nat.le_of_ble_eq_true rfl, Nat.le_of_ble_eq_true rfl⟩ ⟨rfl, rfl⟩ ⟨Nat.le_of_ble_eq_true rfl, Nat.le_of_ble_eq_true rfl⟩ (Nat.le_of_ble_eq_true rfl) dX6_init_64 ?_
  rintro w1 ⟨b23, r24, hw_⟩
  subst hw_
  refine Z.toW (w' := (h0, .inr (6, [.ref a1, .ref a3, .ref a5, .ref a7, .ref a19, .null, .null, .null, .int (zI 0)])) :: ((((((([]) ++ rowW ce a1 r2 (fun i => some (r2 + 1 + i))) ++ rowW ce a3 r4 (fun i => some (r4 + 1 + i))) ++ divW ce a5 g6) ++ (elE ce a7 g8 f19 f210 f311 f412 ++ ppF ce pl13 ar14)) ++ rfW ce a19 b20 r21) ++ curW ce a22 b23 r24)) rfl ?_
  refine Z.putF (ty := tyX6 5) hX 6 0 5 tyX6 hnm dX6_init_67 rfl rfl inX6 tyX6_ok nmX6 (by decide) fl_X6_43 rfl rfl rfl (by decide +kernel) rfl rfl (Nat.le_of_ble_eq_true rfl) ?_
  refine Z.toW (w' := (h0, .inr (6, [.ref a1, .ref a3, .ref a5, .ref a7, .ref a19, .ref a22, .null, .null, .int (zI 0)])) :: ((((((([]) ++ rowW ce a1 r2 (fun i => some (r2 + 1 + i))) ++ rowW ce a3 r4 (fun i => some (r4 + 1 + i))) ++ divW ce a5 g6) ++ (elE ce a7 g8 f19 f210 f311 f412 ++ ppF ce pl13 ar14)) ++ rfW ce a19 b20 r21) ++ curW ce a22 b23 r24)) rfl ?_
  refine Z.aload_n hX dX6_init_70 rfl rfl ?_
  refine Z.newO (fs := [.null, .int (zI 0), .int (zI 0), .int (zI 0)]) hX 0 tyX0 dX6_init_71 rfl inX0 tyX0_ok cl_X6_40 ins_X0 ini_X0 df_X0 (Nat.le_of_ble_eq_true rfl) (Nat.le_of_ble_eq_true rfl) ?_
  intro a25
  refine Z.dup hX dX6_init_74 rfl ?_
  refine Z.initN (wr := (h0, .inr (6, [.ref a1, .ref a3, .ref a5, .ref a7, .ref a19, .ref a22, .null, .null, .int (zI 0)])) :: ((((((([]) ++ rowW ce a1 r2 (fun i => some (r2 + 1 + i))) ++ rowW ce a3 r4 (fun i => some (r4 + 1 + i))) ++ divW ce a5 g6) ++ (elE ce a7 g8 f19 f210 f311 f412 ++ ppF ce pl13 ar14)) ++ rfW ce a19 b20 r21) ++ curW ce a22 b23 r24)) hX (ct_X0_init l D ce a25) mc_X0_init ns_X6_42 rfl im_X0_init ini_X0 nd_X0_init ⟨Nat.le_of_ble_eq_true rfl, Nat.le_of_ble_eq_true rfl⟩ ⟨rfl, rfl⟩ ⟨Nat.le_of_ble_eq_true rfl, Nat.le_of_ble_eq_true rfl⟩ (Nat.le_of_ble_eq_true rfl) dX6_init_75 ?_
  rintro w1 ⟨b26, r27, hw_⟩
  subst hw_
  refine Z.toW (w' := (h0, .inr (6, [.ref a1, .ref a3, .ref a5, .ref a7, .ref a19, .ref a22, .null, .null, .int (zI 0)])) :: (((((((([]) ++ rowW ce a1 r2 (fun i => some (r2 + 1 + i))) ++ rowW ce a3 r4 (fun i => some (r4 + 1 + i))) ++ divW ce a5 g6) ++ (elE ce a7 g8 f19 f210 f311 f412 ++ ppF ce pl13 ar14)) ++ rfW ce a19 b20 r21) ++ curW ce a22 b23 r24) ++ curW ce a25 b26 r27)) rfl ?_
  refine Z.putF (ty := tyX6 6) hX 6 0 6 tyX6 hnm dX6_init_78 rfl rfl inX6 tyX6_ok nmX6 (by decide) fl_X6_47 rfl rfl rfl (by decide +kernel) rfl rfl (Nat.le_of_ble_eq_true rfl) ?_
  refine Z.toW (w' := (h0, .inr (6, [.ref a1, .ref a3, .ref a5, .ref a7, .ref a19, .ref a22, .ref a25, .null, .int (zI 0)])) :: (((((((([]) ++ rowW ce a1 r2 (fun i => some (r2 + 1 + i))) ++ rowW ce a3 r4 (fun i => some (r4 + 1 + i))) ++ divW ce a5 g6) ++ (elE ce a7 g8 f19 f210 f311 f412 ++ ppF ce pl13 ar14)) ++ rfW ce a19 b20 r21) ++ curW ce a22 b23 r24) ++ curW ce a25 b26 r27)) rfl ?_
  refine Z.aload_n hX dX6_init_81 rfl rfl ?_
  refine Z.iconst hX dX6_init_82 ?_
  refine Z.newl (N := 3) hX 1 dX6_init_83 rfl ac_1 rfl (by decide) (Nat.le_of_ble_eq_true rfl) (Nat.le_of_ble_eq_true rfl) ?_
  intro q28
  refine Z.toW (w' := (h0, .inr (6, [.ref a1, .ref a3, .ref a5, .ref a7, .ref a19, .ref a22, .ref a25, .null, .int (zI 0)])) :: ((((((((([]) ++ rowW ce a1 r2 (fun i => some (r2 + 1 + i))) ++ rowW ce a3 r4 (fun i => some (r4 + 1 + i))) ++ divW ce a5 g6) ++ (elE ce a7 g8 f19 f210 f311 f412 ++ ppF ce pl13 ar14)) ++ rfW ce a19 b20 r21) ++ curW ce a22 b23 r24) ++ curW ce a25 b26 r27) ++ [(q28, .inl (ce 1, 3, .inr (.inl (fun _ => 0))))])) rfl ?_
  refine Z.putF (ty := tyX6 7) hX 6 0 7 tyX6 hnm dX6_init_85 rfl rfl inX6 tyX6_ok nmX6 (by decide) fl_X6_50 rfl rfl rfl (by decide +kernel) rfl rfl (Nat.le_of_ble_eq_true rfl) ?_
  refine Z.toW (w' := (h0, .inr (6, [.ref a1, .ref a3, .ref a5, .ref a7, .ref a19, .ref a22, .ref a25, .ref q28, .int (zI 0)])) :: ((((((((([]) ++ rowW ce a1 r2 (fun i => some (r2 + 1 + i))) ++ rowW ce a3 r4 (fun i => some (r4 + 1 + i))) ++ divW ce a5 g6) ++ (elE ce a7 g8 f19 f210 f311 f412 ++ ppF ce pl13 ar14)) ++ rfW ce a19 b20 r21) ++ curW ce a22 b23 r24) ++ curW ce a25 b26 r27) ++ [(q28, .inl (ce 1, 3, .inr (.inl (fun _ => 0))))])) rfl ?_
  refine Z.aload_n hX dX6_init_88 rfl rfl ?_
  refine Z.iconst hX dX6_init_89 ?_
  refine Z.putf (ty := tyX6 8) hX 6 0 8 tyX6 dX6_init_90 rfl rfl inX6 tyX6_ok nmX6 (by decide) fl_X6_54 rfl rfl (by decide +kernel) rfl rfl (Nat.le_of_ble_eq_true rfl) ?_
  refine Z.toW (w' := (h0, .inr (6, [.ref a1, .ref a3, .ref a5, .ref a7, .ref a19, .ref a22, .ref a25, .ref q28, .int (zI 0)])) :: ((((((((([]) ++ rowW ce a1 r2 (fun i => some (r2 + 1 + i))) ++ rowW ce a3 r4 (fun i => some (r4 + 1 + i))) ++ divW ce a5 g6) ++ (elE ce a7 g8 f19 f210 f311 f412 ++ ppF ce pl13 ar14)) ++ rfW ce a19 b20 r21) ++ curW ce a22 b23 r24) ++ curW ce a25 b26 r27) ++ [(q28, .inl (ce 1, 3, .inr (.inl (fun _ => 0))))])) rfl ?_
  refine Z.congA (g := (fun i => some ((fun k => ([h0, a1, a3, a5, a7, a19, a22, a25, q28, r2, r4, g6 0, g6 1, g6 2, g8 0, g8 1, g8 2, g8 3, r2 + 1, r2 + 2, r2 + 3, r4 + 1, r4 + 2, r4 + 3] : List Nat).getD k 0) (18 + i)))) 2 rfl (fun j hj => by rcases (show j = 0 ∨ j = 1 ∨ j = 2 by omega) with rfl | rfl | rfl <;> rfl) ?_
  refine Z.toW (w' := (h0, .inr (6, [.ref a1, .ref a3, .ref a5, .ref a7, .ref a19, .ref a22, .ref a25, .ref q28, .int (zI 0)])) :: ((((((((([]) ++ rowW ce a1 r2 (fun i => some ((fun k => ([h0, a1, a3, a5, a7, a19, a22, a25, q28, r2, r4, g6 0, g6 1, g6 2, g8 0, g8 1, g8 2, g8 3, r2 + 1, r2 + 2, r2 + 3, r4 + 1, r4 + 2, r4 + 3] : List Nat).getD k 0) (18 + i)))) ++ rowW ce a3 r4 (fun i => some (r4 + 1 + i))) ++ divW ce a5 g6) ++ (elE ce a7 g8 f19 f210 f311 f412 ++ ppF ce pl13 ar14)) ++ rfW ce a19 b20 r21) ++ curW ce a22 b23 r24) ++ curW ce a25 b26 r27) ++ [(q28, .inl (ce 1, 3, .inr (.inl (fun _ => 0))))])) rfl ?_
  refine Z.congA (g := (fun i => some ((fun k => ([h0, a1, a3, a5, a7, a19, a22, a25, q28, r2, r4, g6 0, g6 1, g6 2, g8 0, g8 1, g8 2, g8 3, r2 + 1, r2 + 2, r2 + 3, r4 + 1, r4 + 2, r4 + 3] : List Nat).getD k 0) (18 + (3 + i))))) 7 rfl (fun j hj => by rcases (show j = 0 ∨ j = 1 ∨ j = 2 by omega) with rfl | rfl | rfl <;> rfl) ?_
  refine Z.toW (w' := (h0, .inr (6, [.ref a1, .ref a3, .ref a5, .ref a7, .ref a19, .ref a22, .ref a25, .ref q28, .int (zI 0)])) :: ((((((((([]) ++ rowW ce a1 r2 (fun i => some ((fun k => ([h0, a1, a3, a5, a7, a19, a22, a25, q28, r2, r4, g6 0, g6 1, g6 2, g8 0, g8 1, g8 2, g8 3, r2 + 1, r2 + 2, r2 + 3, r4 + 1, r4 + 2, r4 + 3] : List Nat).getD k 0) (18 + i)))) ++ rowW ce a3 r4 (fun i => some ((fun k => ([h0, a1, a3, a5, a7, a19, a22, a25, q28, r2, r4, g6 0, g6 1, g6 2, g8 0, g8 1, g8 2, g8 3, r2 + 1, r2 + 2, r2 + 3, r4 + 1, r4 + 2, r4 + 3] : List Nat).getD k 0) (18 + (3 + i))))) ++ divW ce a5 g6) ++ (elE ce a7 g8 f19 f210 f311 f412 ++ ppF ce pl13 ar14)) ++ rfW ce a19 b20 r21) ++ curW ce a22 b23 r24) ++ curW ce a25 b26 r27) ++ [(q28, .inl (ce 1, 3, .inr (.inl (fun _ => 0))))])) rfl ?_
  refine Z.congA (g := (fun i => some ((fun k => ([pl13 0, pl13 2, pl13 4, pl13 6, pl13 8, pl13 1, pl13 3, pl13 5, pl13 7, pl13 9, pl13 10, pl13 11, pl13 12, pl13 13, pl13 14, pl13 15, pl13 16, pl13 17, pl13 18, pl13 19, pl13 20, pl13 21, pl13 22, pl13 23, pl13 24, pl13 25, pl13 26, pl13 27, pl13 28, pl13 29, pl13 30, pl13 31, pl13 32, pl13 33, pl13 34, pl13 35, b20 0, b20 1, b20 2, b20 3, b23, b26] : List Nat).getD k 0) i))) 16 rfl (fun j hj => by rw [hp15 j hj]; rcases (show j = 0 ∨ j = 1 ∨ j = 2 ∨ j = 3 ∨ j = 4 by omega) with rfl | rfl | rfl | rfl | rfl <;> rfl) ?_
  refine Z.toW (w' := (h0, .inr (6, [.ref a1, .ref a3, .ref a5, .ref a7, .ref a19, .ref a22, .ref a25, .ref q28, .int (zI 0)])) :: ((((((((([]) ++ rowW ce a1 r2 (fun i => some ((fun k => ([h0, a1, a3, a5, a7, a19, a22, a25, q28, r2, r4, g6 0, g6 1, g6 2, g8 0, g8 1, g8 2, g8 3, r2 + 1, r2 + 2, r2 + 3, r4 + 1, r4 + 2, r4 + 3] : List Nat).getD k 0) (18 + i)))) ++ rowW ce a3 r4 (fun i => some ((fun k => ([h0, a1, a3, a5, a7, a19, a22, a25, q28, r2, r4, g6 0, g6 1, g6 2, g8 0, g8 1, g8 2, g8 3, r2 + 1, r2 + 2, r2 + 3, r4 + 1, r4 + 2, r4 + 3] : List Nat).getD k 0) (18 + (3 + i))))) ++ divW ce a5 g6) ++ (elE ce a7 g8 (fun i => some ((fun k => ([pl13 0, pl13 2, pl13 4, pl13 6, pl13 8, pl13 1, pl13 3, pl13 5, pl13 7, pl13 9, pl13 10, pl13 11, pl13 12, pl13 13, pl13 14, pl13 15, pl13 16, pl13 17, pl13 18, pl13 19, pl13 20, pl13 21, pl13 22, pl13 23, pl13 24, pl13 25, pl13 26, pl13 27, pl13 28, pl13 29, pl13 30, pl13 31, pl13 32, pl13 33, pl13 34, pl13 35, b20 0, b20 1, b20 2, b20 3, b23, b26] : List Nat).getD k 0) i)) f210 f311 f412 ++ ppF ce pl13 ar14)) ++ rfW ce a19 b20 r21) ++ curW ce a22 b23 r24) ++ curW ce a25 b26 r27) ++ [(q28, .inl (ce 1, 3, .inr (.inl (fun _ => 0))))])) rfl ?_
  refine Z.congA (g := (fun i => some ((fun k => ([pl13 0, pl13 2, pl13 4, pl13 6, pl13 8, pl13 1, pl13 3, pl13 5, pl13 7, pl13 9, pl13 10, pl13 11, pl13 12, pl13 13, pl13 14, pl13 15, pl13 16, pl13 17, pl13 18, pl13 19, pl13 20, pl13 21, pl13 22, pl13 23, pl13 24, pl13 25, pl13 26, pl13 27, pl13 28, pl13 29, pl13 30, pl13 31, pl13 32, pl13 33, pl13 34, pl13 35, b20 0, b20 1, b20 2, b20 3, b23, b26] : List Nat).getD k 0) (5 + i)))) 17 rfl (fun j hj => by rw [hp16 j hj]; rcases (show j = 0 ∨ j = 1 ∨ j = 2 ∨ j = 3 ∨ j = 4 by omega) with rfl | rfl | rfl | rfl | rfl <;> rfl) ?_
  refine Z.toW (w' := (h0, .inr (6, [.ref a1, .ref a3, .ref a5, .ref a7, .ref a19, .ref a22, .ref a25, .ref q28, .int (zI 0)])) :: ((((((((([]) ++ rowW ce a1 r2 (fun i => some ((fun k => ([h0, a1, a3, a5, a7, a19, a22, a25, q28, r2, r4, g6 0, g6 1, g6 2, g8 0, g8 1, g8 2, g8 3, r2 + 1, r2 + 2, r2 + 3, r4 + 1, r4 + 2, r4 + 3] : List Nat).getD k 0) (18 + i)))) ++ rowW ce a3 r4 (fun i => some ((fun k => ([h0, a1, a3, a5, a7, a19, a22, a25, q28, r2, r4, g6 0, g6 1, g6 2, g8 0, g8 1, g8 2, g8 3, r2 + 1, r2 + 2, r2 + 3, r4 + 1, r4 + 2, r4 + 3] : List Nat).getD k 0) (18 + (3 + i))))) ++ divW ce a5 g6) ++ (elE ce a7 g8 (fun i => some ((fun k => ([pl13 0, pl13 2, pl13 4, pl13 6, pl13 8, pl13 1, pl13 3, pl13 5, pl13 7, pl13 9, pl13 10, pl13 11, pl13 12, pl13 13, pl13 14, pl13 15, pl13 16, pl13 17, pl13 18, pl13 19, pl13 20, pl13 21, pl13 22, pl13 23, pl13 24, pl13 25, pl13 26, pl13 27, pl13 28, pl13 29, pl13 30, pl13 31, pl13 32, pl13 33, pl13 34, pl13 35, b20 0, b20 1, b20 2, b20 3, b23, b26] : List Nat).getD k 0) i)) (fun i => some ((fun k => ([pl13 0, pl13 2, pl13 4, pl13 6, pl13 8, pl13 1, pl13 3, pl13 5, pl13 7, pl13 9, pl13 10, pl13 11, pl13 12, pl13 13, pl13 14, pl13 15, pl13 16, pl13 17, pl13 18, pl13 19, pl13 20, pl13 21, pl13 22, pl13 23, pl13 24, pl13 25, pl13 26, pl13 27, pl13 28, pl13 29, pl13 30, pl13 31, pl13 32, pl13 33, pl13 34, pl13 35, b20 0, b20 1, b20 2, b20 3, b23, b26] : List Nat).getD k 0) (5 + i))) f311 f412 ++ ppF ce pl13 ar14)) ++ rfW ce a19 b20 r21) ++ curW ce a22 b23 r24) ++ curW ce a25 b26 r27) ++ [(q28, .inl (ce 1, 3, .inr (.inl (fun _ => 0))))])) rfl ?_
  refine Z.congA (g := (fun i => some ((fun k => ([pl13 0, pl13 2, pl13 4, pl13 6, pl13 8, pl13 1, pl13 3, pl13 5, pl13 7, pl13 9, pl13 10, pl13 11, pl13 12, pl13 13, pl13 14, pl13 15, pl13 16, pl13 17, pl13 18, pl13 19, pl13 20, pl13 21, pl13 22, pl13 23, pl13 24, pl13 25, pl13 26, pl13 27, pl13 28, pl13 29, pl13 30, pl13 31, pl13 32, pl13 33, pl13 34, pl13 35, b20 0, b20 1, b20 2, b20 3, b23, b26] : List Nat).getD k 0) (10 + tri i)))) 18 rfl (fun j hj => by rw [hp17 j hj]; rcases (show j = 0 ∨ j = 1 ∨ j = 2 ∨ j = 3 ∨ j = 4 ∨ j = 5 ∨ j = 6 ∨ j = 7 ∨ j = 8 ∨ j = 9 ∨ j = 10 ∨ j = 11 ∨ j = 12 ∨ j = 13 ∨ j = 14 ∨ j = 15 by omega) with rfl | rfl | rfl | rfl | rfl | rfl | rfl | rfl | rfl | rfl | rfl | rfl | rfl | rfl | rfl | rfl <;> rfl) ?_
  refine Z.toW (w' := (h0, .inr (6, [.ref a1, .ref a3, .ref a5, .ref a7, .ref a19, .ref a22, .ref a25, .ref q28, .int (zI 0)])) :: ((((((((([]) ++ rowW ce a1 r2 (fun i => some ((fun k => ([h0, a1, a3, a5, a7, a19, a22, a25, q28, r2, r4, g6 0, g6 1, g6 2, g8 0, g8 1, g8 2, g8 3, r2 + 1, r2 + 2, r2 + 3, r4 + 1, r4 + 2, r4 + 3] : List Nat).getD k 0) (18 + i)))) ++ rowW ce a3 r4 (fun i => some ((fun k => ([h0, a1, a3, a5, a7, a19, a22, a25, q28, r2, r4, g6 0, g6 1, g6 2, g8 0, g8 1, g8 2, g8 3, r2 + 1, r2 + 2, r2 + 3, r4 + 1, r4 + 2, r4 + 3] : List Nat).getD k 0) (18 + (3 + i))))) ++ divW ce a5 g6) ++ (elE ce a7 g8 (fun i => some ((fun k => ([pl13 0, pl13 2, pl13 4, pl13 6, pl13 8, pl13 1, pl13 3, pl13 5, pl13 7, pl13 9, pl13 10, pl13 11, pl13 12, pl13 13, pl13 14, pl13 15, pl13 16, pl13 17, pl13 18, pl13 19, pl13 20, pl13 21, pl13 22, pl13 23, pl13 24, pl13 25, pl13 26, pl13 27, pl13 28, pl13 29, pl13 30, pl13 31, pl13 32, pl13 33, pl13 34, pl13 35, b20 0, b20 1, b20 2, b20 3, b23, b26] : List Nat).getD k 0) i)) (fun i => some ((fun k => ([pl13 0, pl13 2, pl13 4, pl13 6, pl13 8, pl13 1, pl13 3, pl13 5, pl13 7, pl13 9, pl13 10, pl13 11, pl13 12, pl13 13, pl13 14, pl13 15, pl13 16, pl13 17, pl13 18, pl13 19, pl13 20, pl13 21, pl13 22, pl13 23, pl13 24, pl13 25, pl13 26, pl13 27, pl13 28, pl13 29, pl13 30, pl13 31, pl13 32, pl13 33, pl13 34, pl13 35, b20 0, b20 1, b20 2, b20 3, b23, b26] : List Nat).getD k 0) (5 + i))) (fun i => some ((fun k => ([pl13 0, pl13 2, pl13 4, pl13 6, pl13 8, pl13 1, pl13 3, pl13 5, pl13 7, pl13 9, pl13 10, pl13 11, pl13 12, pl13 13, pl13 14, pl13 15, pl13 16, pl13 17, pl13 18, pl13 19, pl13 20, pl13 21, pl13 22, pl13 23, pl13 24, pl13 25, pl13 26, pl13 27, pl13 28, pl13 29, pl13 30, pl13 31, pl13 32, pl13 33, pl13 34, pl13 35, b20 0, b20 1, b20 2, b20 3, b23, b26] : List Nat).getD k 0) (10 + tri i))) f412 ++ ppF ce pl13 ar14)) ++ rfW ce a19 b20 r21) ++ curW ce a22 b23 r24) ++ curW ce a25 b26 r27) ++ [(q28, .inl (ce 1, 3, .inr (.inl (fun _ => 0))))])) rfl ?_
  refine Z.congA (g := (fun i => some ((fun k => ([pl13 0, pl13 2, pl13 4, pl13 6, pl13 8, pl13 1, pl13 3, pl13 5, pl13 7, pl13 9, pl13 10, pl13 11, pl13 12, pl13 13, pl13 14, pl13 15, pl13 16, pl13 17, pl13 18, pl13 19, pl13 20, pl13 21, pl13 22, pl13 23, pl13 24, pl13 25, pl13 26, pl13 27, pl13 28, pl13 29, pl13 30, pl13 31, pl13 32, pl13 33, pl13 34, pl13 35, b20 0, b20 1, b20 2, b20 3, b23, b26] : List Nat).getD k 0) (20 + i)))) 19 rfl (fun j hj => by rw [hp18 j hj]; rcases (show j = 0 ∨ j = 1 ∨ j = 2 ∨ j = 3 ∨ j = 4 ∨ j = 5 ∨ j = 6 ∨ j = 7 ∨ j = 8 ∨ j = 9 ∨ j = 10 ∨ j = 11 ∨ j = 12 ∨ j = 13 ∨ j = 14 ∨ j = 15 by omega) with rfl | rfl | rfl | rfl | rfl | rfl | rfl | rfl | rfl | rfl | rfl | rfl | rfl | rfl | rfl | rfl <;> rfl) ?_
  refine Z.toW (w' := (h0, .inr (6, [.ref a1, .ref a3, .ref a5, .ref a7, .ref a19, .ref a22, .ref a25, .ref q28, .int (zI 0)])) :: ((((((((([]) ++ rowW ce a1 r2 (fun i => some ((fun k => ([h0, a1, a3, a5, a7, a19, a22, a25, q28, r2, r4, g6 0, g6 1, g6 2, g8 0, g8 1, g8 2, g8 3, r2 + 1, r2 + 2, r2 + 3, r4 + 1, r4 + 2, r4 + 3] : List Nat).getD k 0) (18 + i)))) ++ rowW ce a3 r4 (fun i => some ((fun k => ([h0, a1, a3, a5, a7, a19, a22, a25, q28, r2, r4, g6 0, g6 1, g6 2, g8 0, g8 1, g8 2, g8 3, r2 + 1, r2 + 2, r2 + 3, r4 + 1, r4 + 2, r4 + 3] : List Nat).getD k 0) (18 + (3 + i))))) ++ divW ce a5 g6) ++ (elE ce a7 g8 (fun i => some ((fun k => ([pl13 0, pl13 2, pl13 4, pl13 6, pl13 8, pl13 1, pl13 3, pl13 5, pl13 7, pl13 9, pl13 10, pl13 11, pl13 12, pl13 13, pl13 14, pl13 15, pl13 16, pl13 17, pl13 18, pl13 19, pl13 20, pl13 21, pl13 22, pl13 23, pl13 24, pl13 25, pl13 26, pl13 27, pl13 28, pl13 29, pl13 30, pl13 31, pl13 32, pl13 33, pl13 34, pl13 35, b20 0, b20 1, b20 2, b20 3, b23, b26] : List Nat).getD k 0) i)) (fun i => some ((fun k => ([pl13 0, pl13 2, pl13 4, pl13 6, pl13 8, pl13 1, pl13 3, pl13 5, pl13 7, pl13 9, pl13 10, pl13 11, pl13 12, pl13 13, pl13 14, pl13 15, pl13 16, pl13 17, pl13 18, pl13 19, pl13 20, pl13 21, pl13 22, pl13 23, pl13 24, pl13 25, pl13 26, pl13 27, pl13 28, pl13 29, pl13 30, pl13 31, pl13 32, pl13 33, pl13 34, pl13 35, b20 0, b20 1, b20 2, b20 3, b23, b26] : List Nat).getD k 0) (5 + i))) (fun i => some ((fun k => ([pl13 0, pl13 2, pl13 4, pl13 6, pl13 8, pl13 1, pl13 3, pl13 5, pl13 7, pl13 9, pl13 10, pl13 11, pl13 12, pl13 13, pl13 14, pl13 15, pl13 16, pl13 17, pl13 18, pl13 19, pl13 20, pl13 21, pl13 22, pl13 23, pl13 24, pl13 25, pl13 26, pl13 27, pl13 28, pl13 29, pl13 30, pl13 31, pl13 32, pl13 33, pl13 34, pl13 35, b20 0, b20 1, b20 2, b20 3, b23, b26] : List Nat).getD k 0) (10 + tri i))) (fun i => some ((fun k => ([pl13 0, pl13 2, pl13 4, pl13 6, pl13 8, pl13 1, pl13 3, pl13 5, pl13 7, pl13 9, pl13 10, pl13 11, pl13 12, pl13 13, pl13 14, pl13 15, pl13 16, pl13 17, pl13 18, pl13 19, pl13 20, pl13 21, pl13 22, pl13 23, pl13 24, pl13 25, pl13 26, pl13 27, pl13 28, pl13 29, pl13 30, pl13 31, pl13 32, pl13 33, pl13 34, pl13 35, b20 0, b20 1, b20 2, b20 3, b23, b26] : List Nat).getD k 0) (20 + i))) ++ ppF ce pl13 ar14)) ++ rfW ce a19 b20 r21) ++ curW ce a22 b23 r24) ++ curW ce a25 b26 r27) ++ [(q28, .inl (ce 1, 3, .inr (.inl (fun _ => 0))))])) rfl ?_
  refine Z.perm (w' := cW ce (fun k => ([h0, a1, a3, a5, a7, a19, a22, a25, q28, r2, r4, g6 0, g6 1, g6 2, g8 0, g8 1, g8 2, g8 3, r2 + 1, r2 + 2, r2 + 3, r4 + 1, r4 + 2, r4 + 3] : List Nat).getD k 0) (fun k => ([pl13 0, pl13 2, pl13 4, pl13 6, pl13 8, pl13 1, pl13 3, pl13 5, pl13 7, pl13 9, pl13 10, pl13 11, pl13 12, pl13 13, pl13 14, pl13 15, pl13 16, pl13 17, pl13 18, pl13 19, pl13 20, pl13 21, pl13 22, pl13 23, pl13 24, pl13 25, pl13 26, pl13 27, pl13 28, pl13 29, pl13 30, pl13 31, pl13 32, pl13 33, pl13 34, pl13 35, b20 0, b20 1, b20 2, b20 3, b23, b26] : List Nat).getD k 0) (fun k => ([ar14 0, ar14 2, ar14 4, ar14 6, ar14 8, ar14 1, ar14 3, ar14 5, ar14 7, ar14 9, ar14 10, ar14 11, ar14 12, ar14 13, ar14 14, ar14 15, ar14 16, ar14 17, ar14 18, ar14 19, ar14 20, ar14 21, ar14 22, ar14 23, ar14 24, ar14 25, ar14 26, ar14 27, ar14 28, ar14 29, ar14 30, ar14 31, ar14 32, ar14 33, ar14 34, ar14 35, r21 0, r21 1, r21 2, r21 3, r24, r27] : List Nat).getD k 0) (fun _ => 0) (fun _ _ => 0) (fun _ => 0) (fun _ _ => 0)) [0, 1, 6, 11, 15, 92, 101, 104, 107, 2, 7, 12, 13, 14, 16, 17, 18, 19, 3, 4, 5, 8, 9, 10, 20, 24, 28, 32, 36, 22, 26, 30, 34, 38, 40, 42, 44, 46, 48, 50, 52, 54, 56, 58, 60, 62, 64, 66, 68, 70, 72, 74, 76, 78, 80, 82, 84, 86, 88, 90, 93, 95, 97, 99, 102, 105, 21, 25, 29, 33, 37, 23, 27, 31, 35, 39, 41, 43, 45, 47, 49, 51, 53, 55, 57, 59, 61, 63, 65, 67, 69, 71, 73, 75, 77, 79, 81, 83, 85, 87, 89, 91, 94, 96, 98, 100, 103, 106] (by decide +kernel) rfl ?_
  exact hR _ _ _ dX6_init_93 ⟨(fun k => ([h0, a1, a3, a5, a7, a19, a22, a25, q28, r2, r4, g6 0, g6 1, g6 2, g8 0, g8 1, g8 2, g8 3, r2 + 1, r2 + 2, r2 + 3, r4 + 1, r4 + 2, r4 + 3] : List Nat).getD k 0), (fun k => ([pl13 0, pl13 2, pl13 4, pl13 6, pl13 8, pl13 1, pl13 3, pl13 5, pl13 7, pl13 9, pl13 10, pl13 11, pl13 12, pl13 13, pl13 14, pl13 15, pl13 16, pl13 17, pl13 18, pl13 19, pl13 20, pl13 21, pl13 22, pl13 23, pl13 24, pl13 25, pl13 26, pl13 27, pl13 28, pl13 29, pl13 30, pl13 31, pl13 32, pl13 33, pl13 34, pl13 35, b20 0, b20 1, b20 2, b20 3, b23, b26] : List Nat).getD k 0), (fun k => ([ar14 0, ar14 2, ar14 4, ar14 6, ar14 8, ar14 1, ar14 3, ar14 5, ar14 7, ar14 9, ar14 10, ar14 11, ar14 12, ar14 13, ar14 14, ar14 15, ar14 16, ar14 17, ar14 18, ar14 19, ar14 20, ar14 21, ar14 22, ar14 23, ar14 24, ar14 25, ar14 26, ar14 27, ar14 28, ar14 29, ar14 30, ar14 31, ar14 32, ar14 33, ar14 34, ar14 35, r21 0, r21 1, r21 2, r21 3, r24, r27] : List Nat).getD k 0), rfl, rfl⟩
end
