theorem nd_of : ∀ l : List Nat, l.Nodup → va_nd l = true
  | [], _ => rfl
  | a :: l, h => by
    have h2 := List.nodup_cons.mp h
    simp only [va_nd, Bool.and_eq_true, decide_eq_true_eq]
    exact ⟨h2.1, nd_of l h2.2⟩
theorem nd_rg (a n : Nat) : va_nd (List.range' a n) = true := nd_of _ List.nodup_range'
theorem z_pre (a b : va_W) : (List.range a.length).map (fun i => (a ++ b)[i]?) = a.map some := by
  rw [← z_rng a]
  apply List.map_congr_left
  intro i hi
  exact List.getElem?_append_left (List.mem_range.mp hi)
theorem z_suf (a b : va_W) : (List.range' a.length b.length).map (fun i => (a ++ b)[i]?) = b.map some := by
  rw [← z_rng b, List.range'_eq_map_range, List.map_map]
  apply List.map_congr_left
  intro i hi
  show (a ++ b)[a.length + i]? = b[i]?
  rw [List.getElem?_append_right (Nat.le_add_right _ _), Nat.add_sub_cancel_left]
theorem z_dis1 (a n : Nat) : ∀ i ∈ List.range a, i ∉ List.range' a n := fun i hi h => by
  have h1 := List.mem_range.mp hi
  have h2 := (List.mem_range'_1.mp h).1
  omega
theorem z_dis2 (a n : Nat) : ∀ i ∈ List.range' a n, i ∉ List.range a := fun i hi h => by
  have h1 := List.mem_range.mp h
  have h2 := (List.mem_range'_1.mp hi).1
  omega
theorem z_dApp {A : Nat → Prop} {w w2 : va_W} {sz : Nat} (hD : va_D A w) (hlt : ∀ (k : Nat) (q : Nat × va_E), w[k]? = some q → q.1 < sz) (h2 : ∀ (k : Nat) (q : Nat × va_E), w2[k]? = some q → q.1 = sz + k) (hA : ∀ q, sz ≤ q → A q) : va_D A (w ++ w2) := by
  refine ⟨fun i j p q hi hj he => ?_, fun k q hk => ?_⟩
  · by_cases h1 : i < w.length <;> by_cases h3 : j < w.length
    · rw [List.getElem?_append_left h1] at hi
      rw [List.getElem?_append_left h3] at hj
      exact hD.1 i j p q hi hj he
    · rw [List.getElem?_append_left h1] at hi
      rw [List.getElem?_append_right (by omega)] at hj
      have := hlt i p hi
      have := h2 _ q hj
      omega
    · rw [List.getElem?_append_right (by omega)] at hi
      rw [List.getElem?_append_left h3] at hj
      have := hlt j q hj
      have := h2 _ p hi
      omega
    · rw [List.getElem?_append_right (by omega)] at hi
      rw [List.getElem?_append_right (by omega)] at hj
      have := h2 _ p hi
      have := h2 _ q hj
      omega
  · by_cases h1 : k < w.length
    · rw [List.getElem?_append_left h1] at hk
      exact hD.2 k q hk
    · rw [List.getElem?_append_right (by omega)] at hk
      exact hA _ (by rw [h2 _ q hk]; omega)
theorem arrV_cong (cA : ClassId) {n : Nat} {f g : Nat → Value} (h : ∀ j, j < n → f j = g j) : arrV cA n f = arrV cA n g := by
  unfold arrV
  congr 1
  apply Array.ext (by simp)
  intro i h1 h2
  simp at h1
  simp [h i h1]
section ZR7
variable {p : Program} {l : Launch} {e : Env} {R : Room} {s : State} {m : MethodId} {args : Array Value} {below : List Frame} {meth : Method} {c : Code} {D : va_G} {A : Nat → Prop} {nL cells slots : Nat} {Q : State → Prop}
variable {cc : ByteArray} {own : String} {tys : List (ClassId × FieldType)} {pc : Nat} {lv : List (Nat × Value)} {st : List Value} {w : va_W}
theorem Z.newO (hX : Zf p m c cc nL s args own D tys A) {C : String} {T : u_T} {N index : Nat} (ci : Nat) (ty0 : Nat → FieldType) {fs : List Value} (hd : decode cc pc = .ok (.new index, 3)) (hc : vwCl[ci]? = some (C, T, N)) (hin : ∀ x ∈ u_ws C T N, x ∈ lw_g) (hty : ∀ k, k < N → parseFieldDescriptor (T k).2.2.1 = some (ty0 k)) (hcl : Cond.classLink own index C ∈ lw_g) (hinst : Cond.instantiable C N ∈ lw_g) (hini : Cond.initialized C ∈ lw_g) (hfs : ∀ j, j < N → defaultValue (ty0 j) = vp_V fs j) (hcells : cells + 1 ≤ R.cells) (hslots : slots + N ≤ R.slots) (k : ∀ q : Nat, Z p l e R s m args below meth c D A nL (cells + 1) (slots + N) Q (pc + 3) lv (.ref q :: st) (w ++ [(q, .inr (ci, fs))])) : Z p l e R s m args below meth c D A nL cells slots Q pc lv st w := by
  intro H locs ls hP hD hS hv
  obtain ⟨hx, hb, hml, hown, hts, hK, hA, hN⟩ := id hX
  exact va_new hx hb hts hin ty0 hty hown (hts _ hcl) (hts _ hinst) (hts _ hini) hK hP hD hS hA hc hfs hcells hslots hd (fun q H1 hP1 hD1 hS1 => k q H1 locs ls hP1 hD1 hS1 hv)
theorem Z.initN (hX : Zf p m c cc nL s args own D tys A) {y : MethodName} {bytes : ByteArray} {maxL mc ms index b : Nat} {rm : Room} {rest : List Value} {wc wr : va_W} {post : va_W → Prop} {host : String} (hM : Ct l y bytes maxL none rm mc ms D tys [.ref b] wc (QV D tys post)) (hcode : Cond.code y bytes maxL none ∈ lw_g) (hlk : (own, index, y, host) ∈ nst) (hnm : y.name = "<init>") (hins : Cond.instanceMethod y ∈ lw_g) (hini : Cond.initialized y.cls ∈ lw_g) (hdd : y.cls ≠ "java/lang/invoke/MethodHandle" ∧ y.cls ≠ "java/lang/invoke/VarHandle" ∧ (parseMethodDescriptor y.desc).map (fun d => d.parameters.length) = some 0) (hR : rm.frames + 1 ≤ R.frames ∧ 8 + (maxL + 11) + rm.locals ≤ R.locals) (hcs : rm.cells = mc ∧ rm.slots = ms) (hroom : cells + mc ≤ R.cells ∧ slots + ms ≤ R.slots) (hcat : (rest.map fun v => v.category).sum ≤ 8) (hd : decode cc pc = .ok (.invokespecial index, 3)) (k : ∀ (w1 : va_W), post w1 → Z p l e R s m args below meth c D A nL (cells + mc) (slots + ms) Q (pc + 3) lv rest (wr ++ w1)) : Z p l e R s m args below meth c D A nL cells slots Q pc lv (.ref b :: rest) (wr ++ wc) := by
  intro H locs ls hP hD hS hv
  obtain ⟨hx, hb, hml, hown, hts, hK, hA, hN⟩ := id hX
  have hC := z_suf wr wc
  have hRr := z_pre wr wc
  have hPc := hP.sub _ (z_fm _ _ _ hC)
  have hDc := hD.sub _ (nd_rg _ _) hC
  have hFc := va_free (wc := wc) hD hS hA _ hC
  have hCB : va_CN R s args own index y host bytes maxL none (.code y bytes maxL none :: lw_g) rm mc ms 0 := va_cnB 0 hts (z_goodC hcode) rfl hcs.1 hcs.2 (hN.1 _ hlk) (hts _ hini) hdd hR
  refine va_callv (va_runIN (b := b) (As := []) (rest := rest) ⟨hx, hb, hml, hown, hts⟩ (hM H.size) ⟨hCB, hnm, hts _ hins⟩ ⟨fun a U g mk q => by obtain ⟨q0, q1, qP, qK, qD, qN⟩ := q; exact ⟨q0, q1, qP, va_K.moved (u := U) (U := U.calling g mk a) (Vm.Alike.refl U.vm) qK, qD, NW.same qN rfl⟩, fun U hU hW => ⟨rfl, by rw [hU], by rw [hU]; exact hPc, va_K.moved hW.alike hK, hDc.weaken (fun _ _ _ _ => trivial), hN.warm hW⟩⟩ rfl rfl hv.1 rfl (lv_room hcat) hd hroom) hS (fun q _ h => hFc q h) hFc (fun u t H1 locs1 ht hvm hw hB hz1 hk1 hS1 => ?_)
  obtain ⟨hP1, hK1, hD1⟩ := hB
  rw [ht] at hP1
  obtain ⟨hP2, hD2⟩ := va_join (wr := wr) (w1 := u) hP hD _ _ hC hRr (z_ndr _) (z_dis1 _ _) hk1 hFc hP1 hD1
  exact k u hw H1 locs1 ls hP2 hD2 hS1 hv
theorem Z.initP (hX : Zf p m c cc nL s args own D tys A) {y : MethodName} {bytes : ByteArray} {maxL mc ms index b : Nat} {rm : Room} {rest : List Value} {wc wr : va_W} {post : va_W → Prop} (hM : Ct l y bytes maxL none rm mc ms D tys [.ref b] wc (QV D tys post)) (hcode : Cond.code y bytes maxL none ∈ lw_g) (hlk : Cond.methodLink own index y ∈ lw_g) (hnm : y.name = "<init>") (hins : Cond.instanceMethod y ∈ lw_g) (hini : Cond.initialized y.cls ∈ lw_g) (hdd : y.cls ≠ "java/lang/invoke/MethodHandle" ∧ y.cls ≠ "java/lang/invoke/VarHandle" ∧ (parseMethodDescriptor y.desc).map (fun d => d.parameters.length) = some 0) (hR : rm.frames + 1 ≤ R.frames ∧ 8 + (maxL + 11) + rm.locals ≤ R.locals) (hcs : rm.cells = mc ∧ rm.slots = ms) (hroom : cells + mc ≤ R.cells ∧ slots + ms ≤ R.slots) (hcat : (rest.map fun v => v.category).sum ≤ 8) (hd : decode cc pc = .ok (.invokespecial index, 3)) (k : ∀ (w1 : va_W), post w1 → Z p l e R s m args below meth c D A nL (cells + mc) (slots + ms) Q (pc + 3) lv rest (wr ++ w1)) : Z p l e R s m args below meth c D A nL cells slots Q pc lv (.ref b :: rest) (wr ++ wc) := by
  intro H locs ls hP hD hS hv
  obtain ⟨hx, hb, hml, hown, hts, hK, hA, hN⟩ := id hX
  have hC := z_suf wr wc
  have hRr := z_pre wr wc
  have hPc := hP.sub _ (z_fm _ _ _ hC)
  have hDc := hD.sub _ (nd_rg _ _) hC
  have hFc := va_free (wc := wc) hD hS hA _ hC
  have hCB : CallB R s args own index y bytes maxL none (.code y bytes maxL none :: lw_g) rm mc ms 0 := callB_of 0 hts (z_goodC hcode) rfl hcs.1 hcs.2 (hts _ hini) (hts _ hlk) hdd hR
  refine va_callv (va_runI (b := b) (As := []) (rest := rest) ⟨hx, hb, hml, hown, hts⟩ (hM H.size) ⟨hCB, hnm, hts _ hins⟩ ⟨fun a U g mk q => by obtain ⟨q0, q1, qP, qK, qD, qN⟩ := q; exact ⟨q0, q1, qP, va_K.moved (u := U) (U := U.calling g mk a) (Vm.Alike.refl U.vm) qK, qD, NW.same qN rfl⟩, fun U hU hW => ⟨rfl, by rw [hU], by rw [hU]; exact hPc, va_K.moved hW.alike hK, hDc.weaken (fun _ _ _ _ => trivial), hN.warm hW⟩⟩ rfl rfl hv.1 rfl (lv_room hcat) hd hroom) hS (fun q _ h => hFc q h) hFc (fun u t H1 locs1 ht hvm hw hB hz1 hk1 hS1 => ?_)
  obtain ⟨hP1, hK1, hD1⟩ := hB
  rw [ht] at hP1
  obtain ⟨hP2, hD2⟩ := va_join (wr := wr) (w1 := u) hP hD _ _ hC hRr (z_ndr _) (z_dis1 _ _) hk1 hFc hP1 hD1
  exact k u hw H1 locs1 ls hP2 hD2 hS1 hv
theorem Z.anew (hX : Zf p m c cc nL s args own D tys A) (t0 : Nat) {cA : ClassId} {z : Int} {N index : Nat} (hd : decode cc pc = .ok (.anewarray index, 3)) (ht : tys[t0]? = some (cA, .object "EliminateLoci$Plane")) (hcl : Cond.classLink own index "EliminateLoci$Plane" ∈ lw_g) (hz : z = N) (hN0 : N ≤ 60000000) (hcells : cells + 1 ≤ R.cells) (hslots : slots + N ≤ R.slots) (k : ∀ q : Nat, Z p l e R s m args below meth c D A nL (cells + 1) (slots + N) Q (pc + 3) lv (.ref q :: st) (w ++ [(q, .inl (cA, N, .inr (.inr (.inr (.inr (fun _ => none))))))])) : Z p l e R s m args below meth c D A nL cells slots Q pc lv (.int (zI z) :: st) w := by
  intro H locs ls hP hD hS hv
  obtain ⟨hx, hb, hml, hown, hts, hK, hA, hN⟩ := id hX
  subst hz
  refine va_newq (N' := N) hx hb hown (hts _ hcl) hN.2.1 hK hP hD hS hA ?_ ?_ (by omega) hcells hslots hd (fun q cA' H1 hK1 hP1 hD1 hS1 => ?_)
  · intro q0
    have := (zI_lt (a := (N : Int)) (b := 0) ⟨by omega, by omega⟩ zR_0).mp q0
    omega
  · rw [zI_cl (by omega) (by omega)]; rfl
  · obtain ⟨-, -, -, -, -, h1⟩ := (hK1.2 tys.length (cA', .object "EliminateLoci$Plane") (by simp)).2
    obtain ⟨-, -, -, -, -, h2⟩ := (hK.2 t0 _ ht).2
    have h3 : cA' = cA := Option.some.inj (h1.symm.trans h2)
    subst h3
    exact k q H1 locs ls hP1 hD1 hS1 hv
theorem Z.aast (hX : Zf p m c cc nL s args own D tys A) (q0 t0 qk : Nat) {a v : Nat} {cA : ClassId} {n : Nat} {f : Nat → Option Nat} {z : Int} {vs : List Value} (hd : decode cc pc = .ok (.aastore, 1)) (ha : w[q0]? = some (a, .inl (cA, n, .inr (.inr (.inr (.inr f)))))) (ht : tys[t0]? = some (cA, .object "EliminateLoci$Plane")) (hv0 : w[qk]? = some (v, .inr (3, vs))) (h1 : 0 ≤ z) (h2 : z < n) (hn : n < 2147483648) (k : Z p l e R s m args below meth c D A nL cells slots Q (pc + 1) lv st (w.set q0 (a, .inl (cA, n, .inr (.inr (.inr (.inr (va_up f z.toNat (some v))))))))) : Z p l e R s m args below meth c D A nL cells slots Q pc lv (.ref v :: .int (zI z) :: .ref a :: st) w := by
  intro H locs ls hP hD hS hv
  obtain ⟨hx, hb, hml, hown, hts, hK, hA, hN⟩ := id hX
  refine va_astq (r := ("EliminateLoci$Plane", TX3, 2)) hx hb hK hP hD hS q0 t0 qk 3 ha ht hv0 rfl (zI_in h1 h2 hn) hd (fun H1 locs1 hP1 hD1 hS1 => ?_)
  rw [zI_cl h1 (by omega)] at hP1 hD1
  exact k H1 locs1 ls hP1 hD1 hS1 hv
theorem Z.congA {a : Nat} {cA : ClassId} {n : Nat} {f g : Nat → Option Nat} (q0 : Nat) (ha : w[q0]? = some (a, .inl (cA, n, .inr (.inr (.inr (.inr f)))))) (hf : ∀ j, j < n → f j = g j) (k : Z p l e R s m args below meth c D A nL cells slots Q pc lv st (w.set q0 (a, .inl (cA, n, .inr (.inr (.inr (.inr g))))))) : Z p l e R s m args below meth c D A nL cells slots Q pc lv st w := by
  intro H locs ls hP hD hS hv
  refine k H locs ls (hP.set hD ha ?_ (fun _ _ => rfl)) (hD.set ha) hS hv
  have h1 : H[a]? = some (vp_cell cA (n, .inr (.inr (.inr (.inr f))))) := hP q0 _ ha
  show H[a]? = some (vp_cell cA (n, .inr (.inr (.inr (.inr g)))))
  rw [h1, vp_cell_q, vp_cell_q, arrV_cong cA (fun j hj => by rw [hf j hj])]
end ZR7
