theorem Ct.ofI {l : Launch} {y : MethodName} {cc : ByteArray} {nL : Nat} {rm : Room} {mc ms : Nat} {D : va_G} {tys : List (ClassId × FieldType)} {avs : List Value} {w : va_W} {post : Int32 → va_W → Prop} (hy : plainName y.cls = true) (hlen : (lg_sl avs).length ≤ nL)
    (body : ∀ (p : Program) (e : Env) (s : State) (m : MethodId) (args : Array Value) (below : List Frame) (meth : Method) (c : Code) (A : Nat → Prop) (Q : State → Prop), Zf p m c cc nL s args y.cls D tys A → meth.name = y.name → (∀ (pc : Nat) (lv : List (Nat × Value)) (v : Int32) (w1 : va_W), decode cc pc = .ok (.ireturn, 1) → post v w1 → Z p l e rm s m args below meth c D A nL mc ms Q pc lv [.int v] w1) → Z p l e rm s m args below meth c D A nL 0 0 Q 0 (lv_args 0 avs) [] w) : Ct l y cc nL (some .int) rm mc ms D tys avs w (QI D tys post) := by
  intro sz
  refine Met.ofW (cc := cc) (maxL := nL) (ret := (some .int)) hy rfl ?_
  intro p e s m args below meth c s₁ B hml hv
  obtain ⟨rfl, hsz, hP, hK, hD0, hN⟩ := hv
  subst hsz
  have hts := atoms_spec (ws := .code y cc nL (some .int) :: lw_g) B.pre
  have hX : Zf p m c cc nL s avs.toArray y.cls D tys (va_A w s.heap.size) := ⟨B.exec, B.bytes, hml, findClass_of_methodNamed B.named, fun x hx => hts x (List.mem_cons_of_mem _ hx), hK, fun q h => Or.inr h, hN⟩
  have hnm : meth.name = y.name := (name_of_methodNamed B.named B.method).1
  rw [lg_entry_eq]
  exact body p e s m avs.toArray below meth c (va_A w s.heap.size) _ hX hnm (fun pc lv v w1 hd h => Z.iret hX B.returns B.notSynchronized hd h) s.heap [] _ hP hD0.self va_S.rf (lv_entry avs hlen)
theorem Ct.ofB {l : Launch} {y : MethodName} {cc : ByteArray} {nL : Nat} {rm : Room} {mc ms : Nat} {D : va_G} {tys : List (ClassId × FieldType)} {avs : List Value} {w : va_W} {post : Int32 → va_W → Prop} (hy : plainName y.cls = true) (hlen : (lg_sl avs).length ≤ nL)
    (body : ∀ (p : Program) (e : Env) (s : State) (m : MethodId) (args : Array Value) (below : List Frame) (meth : Method) (c : Code) (A : Nat → Prop) (Q : State → Prop), Zf p m c cc nL s args y.cls D tys A → meth.name = y.name → (∀ (pc : Nat) (lv : List (Nat × Value)) (v : Int32) (w1 : va_W), decode cc pc = .ok (.ireturn, 1) → narrow .boolean (.int v) = .int v → post v w1 → Z p l e rm s m args below meth c D A nL mc ms Q pc lv [.int v] w1) → Z p l e rm s m args below meth c D A nL 0 0 Q 0 (lv_args 0 avs) [] w) : Ct l y cc nL (some .boolean) rm mc ms D tys avs w (QI D tys post) := by
  intro sz
  refine Met.ofW (cc := cc) (maxL := nL) (ret := (some .boolean)) hy rfl ?_
  intro p e s m args below meth c s₁ B hml hv
  obtain ⟨rfl, hsz, hP, hK, hD0, hN⟩ := hv
  subst hsz
  have hts := atoms_spec (ws := .code y cc nL (some .boolean) :: lw_g) B.pre
  have hX : Zf p m c cc nL s avs.toArray y.cls D tys (va_A w s.heap.size) := ⟨B.exec, B.bytes, hml, findClass_of_methodNamed B.named, fun x hx => hts x (List.mem_cons_of_mem _ hx), hK, fun q h => Or.inr h, hN⟩
  have hnm : meth.name = y.name := (name_of_methodNamed B.named B.method).1
  rw [lg_entry_eq]
  exact body p e s m avs.toArray below meth c (va_A w s.heap.size) _ hX hnm (fun pc lv v w1 hd hn h => Z.zret hX B.returns B.notSynchronized hd hn h) s.heap [] _ hP hD0.self va_S.rf (lv_entry avs hlen)
theorem Ct.ofL {l : Launch} {y : MethodName} {cc : ByteArray} {nL : Nat} {rm : Room} {mc ms : Nat} {D : va_G} {tys : List (ClassId × FieldType)} {avs : List Value} {w : va_W} {post : Int64 → va_W → Prop} (hy : plainName y.cls = true) (hlen : (lg_sl avs).length ≤ nL)
    (body : ∀ (p : Program) (e : Env) (s : State) (m : MethodId) (args : Array Value) (below : List Frame) (meth : Method) (c : Code) (A : Nat → Prop) (Q : State → Prop), Zf p m c cc nL s args y.cls D tys A → meth.name = y.name → (∀ (pc : Nat) (lv : List (Nat × Value)) (v : Int64) (w1 : va_W), decode cc pc = .ok (.lreturn, 1) → post v w1 → Z p l e rm s m args below meth c D A nL mc ms Q pc lv [.long v] w1) → Z p l e rm s m args below meth c D A nL 0 0 Q 0 (lv_args 0 avs) [] w) : Ct l y cc nL (some .long) rm mc ms D tys avs w (QL D tys post) := by
  intro sz
  refine Met.ofW (cc := cc) (maxL := nL) (ret := (some .long)) hy rfl ?_
  intro p e s m args below meth c s₁ B hml hv
  obtain ⟨rfl, hsz, hP, hK, hD0, hN⟩ := hv
  subst hsz
  have hts := atoms_spec (ws := .code y cc nL (some .long) :: lw_g) B.pre
  have hX : Zf p m c cc nL s avs.toArray y.cls D tys (va_A w s.heap.size) := ⟨B.exec, B.bytes, hml, findClass_of_methodNamed B.named, fun x hx => hts x (List.mem_cons_of_mem _ hx), hK, fun q h => Or.inr h, hN⟩
  have hnm : meth.name = y.name := (name_of_methodNamed B.named B.method).1
  rw [lg_entry_eq]
  exact body p e s m avs.toArray below meth c (va_A w s.heap.size) _ hX hnm (fun pc lv v w1 hd h => Z.lret hX B.returns B.notSynchronized hd h) s.heap [] _ hP hD0.self va_S.rf (lv_entry avs hlen)
theorem Ct.ofV {l : Launch} {y : MethodName} {cc : ByteArray} {nL : Nat} {rm : Room} {mc ms : Nat} {D : va_G} {tys : List (ClassId × FieldType)} {avs : List Value} {w : va_W} {post : va_W → Prop} (hy : plainName y.cls = true) (hlen : (lg_sl avs).length ≤ nL)
    (body : ∀ (p : Program) (e : Env) (s : State) (m : MethodId) (args : Array Value) (below : List Frame) (meth : Method) (c : Code) (A : Nat → Prop) (Q : State → Prop), Zf p m c cc nL s args y.cls D tys A → meth.name = y.name → (∀ (pc : Nat) (lv : List (Nat × Value)) (w1 : va_W), decode cc pc = .ok (.return_, 1) → post w1 → Z p l e rm s m args below meth c D A nL mc ms Q pc lv [] w1) → Z p l e rm s m args below meth c D A nL 0 0 Q 0 (lv_args 0 avs) [] w) : Ct l y cc nL none rm mc ms D tys avs w (QV D tys post) := by
  intro sz
  refine Met.ofW (cc := cc) (maxL := nL) (ret := none) hy rfl ?_
  intro p e s m args below meth c s₁ B hml hv
  obtain ⟨rfl, hsz, hP, hK, hD0, hN⟩ := hv
  subst hsz
  have hts := atoms_spec (ws := .code y cc nL none :: lw_g) B.pre
  have hX : Zf p m c cc nL s avs.toArray y.cls D tys (va_A w s.heap.size) := ⟨B.exec, B.bytes, hml, findClass_of_methodNamed B.named, fun x hx => hts x (List.mem_cons_of_mem _ hx), hK, fun q h => Or.inr h, hN⟩
  have hnm : meth.name = y.name := (name_of_methodNamed B.named B.method).1
  rw [lg_entry_eq]
  exact body p e s m avs.toArray below meth c (va_A w s.heap.size) _ hX hnm (fun pc lv w1 hd h => Z.vret hX B.returns B.notSynchronized hd h) s.heap [] _ hP hD0.self va_S.rf (lv_entry avs hlen)
theorem va_join1 {A0 : Nat → Prop} {D : va_G} {cl : List vw_C} {ws : va_W} {q a : Nat} {e0 e1 : va_E} {H H1 : Heap} (hP : va_P D cl ws H) (hD : va_D A0 ws) (hq : ws[q]? = some (a, e0)) (hk : ∀ x : Nat, x < H.size → ¬ va_A [(a, e0)] H.size x → H1[x]? = H[x]?) (hP1 : va_P D cl [(a, e1)] H1) : va_P D cl (ws.set q (a, e1)) H1 := by
  intro k x hx
  by_cases hkq : q = k
  · subst hkq
    have hl : q < ws.length := (List.getElem?_eq_some_iff.mp hq).1
    rw [List.getElem?_set_self hl] at hx
    cases hx
    exact hP1 0 _ rfl
  · rw [List.getElem?_set_ne hkq] at hx
    have h1 := hP k x hx
    refine h1.kept (hk x.1 h1.lt ?_)
    rintro (⟨j, e2, hj⟩ | h)
    · match j, hj with
      | 0, hj =>
        have hj2 : (a, e0) = (x.1, e2) := Option.some.inj hj
        have hax : x.1 = a := (Prod.mk.inj hj2).1.symm
        exact hkq (hD.1 q k (a, e0) x hq hx hax.symm)
      | j + 1, hj => cases hj
    · have := h1.lt
      omega
theorem z_rng {α : Type} : ∀ (w : List α), (List.range w.length).map (fun i => w[i]?) = w.map some := by
  intro w
  apply List.ext_getElem (by simp)
  intro i h1 h2
  simp at h1 h2 ⊢
theorem z_ndr (n : Nat) : va_nd (List.range n) = true := by
  have h : ∀ (l : List Nat), l.Nodup → va_nd l = true := by
    intro l hl
    induction l with
    | nil => rfl
    | cons a r ih =>
      have h2 := List.nodup_cons.mp hl
      simp [va_nd, ih h2.2, h2.1]
  exact h _ List.nodup_range
section ZR4
variable {p : Program} {l : Launch} {e : Env} {R : Room} {s : State} {m : MethodId} {args : Array Value} {below : List Frame} {meth : Method} {c : Code} {D : va_G} {A : Nat → Prop} {nL cells slots : Nat} {Q : State → Prop}
variable {cc : ByteArray} {own : String} {tys : List (ClassId × FieldType)} {pc : Nat} {lv : List (Nat × Value)} {st : List Value} {w : va_W}
theorem Z.pick {lv' : List (Nat × Value)} (ks : List Nat) (h : lv_pick lv ks = lv') (k : Z p l e R s m args below meth c D A nL cells slots Q pc lv' st w) : Z p l e R s m args below meth c D A nL cells slots Q pc lv st w := fun H locs ls hP hD hS hv => k H locs ls hP hD hS (lv_sub hv ks h)
theorem Z.callS0i (hX : Zf p m c cc nL s args own D tys A) {y : MethodName} {bytes : ByteArray} {maxL index : Nat} {ret : Option FieldType} {rm : Room} {As rest : List Value} {post : Int32 → va_W → Prop} (hM : Ct l y bytes maxL ret rm 0 0 D tys As [] (QI D tys post)) (hcode : Cond.code y bytes maxL ret ∈ lw_g) (hlk : Cond.methodLink own index y ∈ lw_g) (hst : Cond.static y ∈ lw_g) (hini : Cond.initialized y.cls ∈ lw_g) (hdd : y.cls ≠ "java/lang/invoke/MethodHandle" ∧ y.cls ≠ "java/lang/invoke/VarHandle" ∧ (parseMethodDescriptor y.desc).map (fun d => d.parameters.length) = some As.length) (hR : rm.frames + 1 ≤ R.frames ∧ 8 + (maxL + 11) + rm.locals ≤ R.locals) (hcs : rm.cells = 0 ∧ rm.slots = 0) (hroom : cells ≤ R.cells ∧ slots ≤ R.slots) (hstk : st = As.reverse ++ rest) (hcat : (rest.map fun v => v.category).sum ≤ 8) (hd : decode cc pc = .ok (.invokestatic index, 3)) (k : ∀ (r : Int32) (w1 : va_W), post r w1 → w1 = [] ∧ Z p l e R s m args below meth c D A nL cells slots Q (pc + 3) lv (.int r :: rest) w) : Z p l e R s m args below meth c D A nL cells slots Q pc lv st w :=
  Z.callSi hX hM hcode hlk hst hini hdd hR hcs hroom [] (List.range w.length) rfl (z_rng w) rfl (z_ndr _) (fun _ _ h => by cases h) hstk hcat hd (fun r w1 h => by
    obtain ⟨h1, h2⟩ := k r w1 h
    rw [h1, List.append_nil]
    exact h2)
theorem Z.callSfi (hX : Zf p m c cc nL s args own D tys A) {y : MethodName} {bytes : ByteArray} {maxL index : Nat} {ret : Option FieldType} {rm : Room} {As rest : List Value} {post : Int32 → va_W → Prop}  (hM : Ct l y bytes maxL ret rm 0 0 D tys As w (QI D tys post)) (hcode : Cond.code y bytes maxL ret ∈ lw_g) (hlk : Cond.methodLink own index y ∈ lw_g) (hst : Cond.static y ∈ lw_g) (hini : Cond.initialized y.cls ∈ lw_g) (hdd : y.cls ≠ "java/lang/invoke/MethodHandle" ∧ y.cls ≠ "java/lang/invoke/VarHandle" ∧ (parseMethodDescriptor y.desc).map (fun d => d.parameters.length) = some As.length) (hR : rm.frames + 1 ≤ R.frames ∧ 8 + (maxL + 11) + rm.locals ≤ R.locals) (hcs : rm.cells = 0 ∧ rm.slots = 0) (hroom : cells ≤ R.cells ∧ slots ≤ R.slots) (hstk : st = As.reverse ++ rest) (hcat : (rest.map fun v => v.category).sum ≤ 8) (hd : decode cc pc = .ok (.invokestatic index, 3)) (k : ∀ (r : Int32) (w1 : va_W), post r w1 → Z p l e R s m args below meth c D A nL cells slots Q (pc + 3) lv (.int r :: rest) w1) : Z p l e R s m args below meth c D A nL cells slots Q pc lv st w :=
  Z.callSi (wr := []) hX hM hcode hlk hst hini hdd hR hcs hroom (List.range w.length) [] (z_rng w) rfl (z_ndr _) rfl (fun _ h => by cases h) hstk hcat hd (fun r w1 h => k r w1 h)
theorem Z.callVfi (hX : Zf p m c cc nL s args own D tys A) {y : MethodName} {bytes : ByteArray} {maxL index : Nat} {ret : Option FieldType} {rm : Room} {As rest : List Value} {post : Int32 → va_W → Prop} {C : String} {T : u_T} {N b : Nat} {fs : List Value} (ci qb : Nat) (hci : vwCl[ci]? = some (C, T, N)) (hqb : w[qb]? = some (b, .inr (ci, fs))) (hM : Ct l y bytes maxL ret rm 0 0 D tys (.ref b :: As) w (QI D tys post)) (hcode : Cond.code y bytes maxL ret ∈ lw_g) (hlk : Cond.methodLink own index y ∈ lw_g) (hins : Cond.instanceMethod y ∈ lw_g) (hsel : Cond.selects C y y ∈ lw_g) (hini : Cond.initialized y.cls ∈ lw_g) (hdd : y.cls ≠ "java/lang/invoke/MethodHandle" ∧ y.cls ≠ "java/lang/invoke/VarHandle" ∧ (parseMethodDescriptor y.desc).map (fun d => d.parameters.length) = some As.length) (hR : rm.frames + 1 ≤ R.frames ∧ 8 + (maxL + 11) + rm.locals ≤ R.locals) (hcs : rm.cells = 0 ∧ rm.slots = 0) (hroom : cells ≤ R.cells ∧ slots ≤ R.slots) (hstk : st = As.reverse ++ .ref b :: rest) (hcat : (rest.map fun v => v.category).sum ≤ 8) (hd : decode cc pc = .ok (.invokevirtual index, 3)) (k : ∀ (r : Int32) (w1 : va_W), post r w1 → Z p l e R s m args below meth c D A nL cells slots Q (pc + 3) lv (.int r :: rest) w1) : Z p l e R s m args below meth c D A nL cells slots Q pc lv st w :=
  Z.callVi (wr := []) hX ci qb hci hqb hM hcode hlk hins hsel hini hdd hR hcs hroom (List.range w.length) [] (z_rng w) rfl (z_ndr _) rfl (fun _ h => by cases h) hstk hcat hd (fun r w1 h => k r w1 h)
theorem Z.callS1i (hX : Zf p m c cc nL s args own D tys A) {y : MethodName} {bytes : ByteArray} {maxL index : Nat} {ret : Option FieldType} {rm : Room} {As rest : List Value} {post : Int32 → va_W → Prop} (q0 : Nat) {a0 : Nat} {e0 : va_E} (hq0 : w[q0]? = some (a0, e0)) (hM : Ct l y bytes maxL ret rm 0 0 D tys As [(a0, e0)] (QI D tys post)) (hcode : Cond.code y bytes maxL ret ∈ lw_g) (hlk : Cond.methodLink own index y ∈ lw_g) (hst : Cond.static y ∈ lw_g) (hini : Cond.initialized y.cls ∈ lw_g) (hdd : y.cls ≠ "java/lang/invoke/MethodHandle" ∧ y.cls ≠ "java/lang/invoke/VarHandle" ∧ (parseMethodDescriptor y.desc).map (fun d => d.parameters.length) = some As.length) (hR : rm.frames + 1 ≤ R.frames ∧ 8 + (maxL + 11) + rm.locals ≤ R.locals) (hcs : rm.cells = 0 ∧ rm.slots = 0) (hroom : cells ≤ R.cells ∧ slots ≤ R.slots) (hstk : st = As.reverse ++ rest) (hcat : (rest.map fun v => v.category).sum ≤ 8) (hd : decode cc pc = .ok (.invokestatic index, 3)) (k : ∀ (r : Int32) (w1 : va_W), post r w1 → ∃ e1, w1 = [(a0, e1)] ∧ Z p l e R s m args below meth c D A nL cells slots Q (pc + 3) lv (.int r :: rest) (w.set q0 (a0, e1))) : Z p l e R s m args below meth c D A nL cells slots Q pc lv st w := by
  intro H locs ls hP hD hS hv
  obtain ⟨hx, hb, hml, hown, hts, hK, hA, hN⟩ := id hX
  have hC : [q0].map (fun i => w[i]?) = ([(a0, e0)] : va_W).map some := by rw [List.map_cons, hq0]; rfl
  have hPc := hP.sub [q0] (z_fm _ _ _ hC)
  have hDc := hD.sub [q0] rfl hC
  have hFc := va_free (wc := [(a0, e0)]) hD hS hA [q0] hC
  have hCB : CallB R s args own index y bytes maxL ret (.code y bytes maxL ret :: lw_g) rm 0 0 As.length := callB_of As.length hts (z_goodC hcode) rfl hcs.1 hcs.2 (hts _ hini) (hts _ hlk) hdd hR
  refine va_calli (va_runS (As := As) (rest := rest) ⟨hx, hb, hml, hown, hts⟩ (hM H.size) ⟨hCB, hts _ hst⟩ ⟨fun a U g mk q => by obtain ⟨q0, q1, qP, qK, qD, qN⟩ := q; exact ⟨q0, q1, qP, va_K.moved (u := U) (U := U.calling g mk a) (Vm.Alike.refl U.vm) qK, qD, NW.same qN rfl⟩, fun U hU hW => ⟨rfl, by rw [hU], by rw [hU]; exact hPc, va_K.moved hW.alike hK, hDc.weaken (fun _ _ _ _ => trivial), hN.warm hW⟩⟩ rfl rfl hv.1 hstk (lv_room hcat) hd hroom) hS (fun q _ h => hFc q h) hFc (fun r u t H1 locs1 ht hvm hw hB hz1 hk1 hS1 => ?_)
  obtain ⟨hP1, hK1, hD1⟩ := hB
  rw [ht] at hP1
  obtain ⟨e1, rfl, hk⟩ := k r u hw
  exact hk H1 locs1 ls (va_join1 hP hD hq0 hk1 hP1) (hD.set hq0) hS1 hv
theorem Z.callS0l (hX : Zf p m c cc nL s args own D tys A) {y : MethodName} {bytes : ByteArray} {maxL index : Nat} {ret : Option FieldType} {rm : Room} {As rest : List Value} {post : Int64 → va_W → Prop} (hM : Ct l y bytes maxL ret rm 0 0 D tys As [] (QL D tys post)) (hcode : Cond.code y bytes maxL ret ∈ lw_g) (hlk : Cond.methodLink own index y ∈ lw_g) (hst : Cond.static y ∈ lw_g) (hini : Cond.initialized y.cls ∈ lw_g) (hdd : y.cls ≠ "java/lang/invoke/MethodHandle" ∧ y.cls ≠ "java/lang/invoke/VarHandle" ∧ (parseMethodDescriptor y.desc).map (fun d => d.parameters.length) = some As.length) (hR : rm.frames + 1 ≤ R.frames ∧ 8 + (maxL + 11) + rm.locals ≤ R.locals) (hcs : rm.cells = 0 ∧ rm.slots = 0) (hroom : cells ≤ R.cells ∧ slots ≤ R.slots) (hstk : st = As.reverse ++ rest) (hcat : (rest.map fun v => v.category).sum ≤ 8) (hd : decode cc pc = .ok (.invokestatic index, 3)) (k : ∀ (r : Int64) (w1 : va_W), post r w1 → w1 = [] ∧ Z p l e R s m args below meth c D A nL cells slots Q (pc + 3) lv (.long r :: rest) w) : Z p l e R s m args below meth c D A nL cells slots Q pc lv st w :=
  Z.callSl hX hM hcode hlk hst hini hdd hR hcs hroom [] (List.range w.length) rfl (z_rng w) rfl (z_ndr _) (fun _ _ h => by cases h) hstk hcat hd (fun r w1 h => by
    obtain ⟨h1, h2⟩ := k r w1 h
    rw [h1, List.append_nil]
    exact h2)
theorem Z.callSfl (hX : Zf p m c cc nL s args own D tys A) {y : MethodName} {bytes : ByteArray} {maxL index : Nat} {ret : Option FieldType} {rm : Room} {As rest : List Value} {post : Int64 → va_W → Prop}  (hM : Ct l y bytes maxL ret rm 0 0 D tys As w (QL D tys post)) (hcode : Cond.code y bytes maxL ret ∈ lw_g) (hlk : Cond.methodLink own index y ∈ lw_g) (hst : Cond.static y ∈ lw_g) (hini : Cond.initialized y.cls ∈ lw_g) (hdd : y.cls ≠ "java/lang/invoke/MethodHandle" ∧ y.cls ≠ "java/lang/invoke/VarHandle" ∧ (parseMethodDescriptor y.desc).map (fun d => d.parameters.length) = some As.length) (hR : rm.frames + 1 ≤ R.frames ∧ 8 + (maxL + 11) + rm.locals ≤ R.locals) (hcs : rm.cells = 0 ∧ rm.slots = 0) (hroom : cells ≤ R.cells ∧ slots ≤ R.slots) (hstk : st = As.reverse ++ rest) (hcat : (rest.map fun v => v.category).sum ≤ 8) (hd : decode cc pc = .ok (.invokestatic index, 3)) (k : ∀ (r : Int64) (w1 : va_W), post r w1 → Z p l e R s m args below meth c D A nL cells slots Q (pc + 3) lv (.long r :: rest) w1) : Z p l e R s m args below meth c D A nL cells slots Q pc lv st w :=
  Z.callSl (wr := []) hX hM hcode hlk hst hini hdd hR hcs hroom (List.range w.length) [] (z_rng w) rfl (z_ndr _) rfl (fun _ h => by cases h) hstk hcat hd (fun r w1 h => k r w1 h)
theorem Z.callVfl (hX : Zf p m c cc nL s args own D tys A) {y : MethodName} {bytes : ByteArray} {maxL index : Nat} {ret : Option FieldType} {rm : Room} {As rest : List Value} {post : Int64 → va_W → Prop} {C : String} {T : u_T} {N b : Nat} {fs : List Value} (ci qb : Nat) (hci : vwCl[ci]? = some (C, T, N)) (hqb : w[qb]? = some (b, .inr (ci, fs))) (hM : Ct l y bytes maxL ret rm 0 0 D tys (.ref b :: As) w (QL D tys post)) (hcode : Cond.code y bytes maxL ret ∈ lw_g) (hlk : Cond.methodLink own index y ∈ lw_g) (hins : Cond.instanceMethod y ∈ lw_g) (hsel : Cond.selects C y y ∈ lw_g) (hini : Cond.initialized y.cls ∈ lw_g) (hdd : y.cls ≠ "java/lang/invoke/MethodHandle" ∧ y.cls ≠ "java/lang/invoke/VarHandle" ∧ (parseMethodDescriptor y.desc).map (fun d => d.parameters.length) = some As.length) (hR : rm.frames + 1 ≤ R.frames ∧ 8 + (maxL + 11) + rm.locals ≤ R.locals) (hcs : rm.cells = 0 ∧ rm.slots = 0) (hroom : cells ≤ R.cells ∧ slots ≤ R.slots) (hstk : st = As.reverse ++ .ref b :: rest) (hcat : (rest.map fun v => v.category).sum ≤ 8) (hd : decode cc pc = .ok (.invokevirtual index, 3)) (k : ∀ (r : Int64) (w1 : va_W), post r w1 → Z p l e R s m args below meth c D A nL cells slots Q (pc + 3) lv (.long r :: rest) w1) : Z p l e R s m args below meth c D A nL cells slots Q pc lv st w :=
  Z.callVl (wr := []) hX ci qb hci hqb hM hcode hlk hins hsel hini hdd hR hcs hroom (List.range w.length) [] (z_rng w) rfl (z_ndr _) rfl (fun _ h => by cases h) hstk hcat hd (fun r w1 h => k r w1 h)
theorem Z.callS1l (hX : Zf p m c cc nL s args own D tys A) {y : MethodName} {bytes : ByteArray} {maxL index : Nat} {ret : Option FieldType} {rm : Room} {As rest : List Value} {post : Int64 → va_W → Prop} (q0 : Nat) {a0 : Nat} {e0 : va_E} (hq0 : w[q0]? = some (a0, e0)) (hM : Ct l y bytes maxL ret rm 0 0 D tys As [(a0, e0)] (QL D tys post)) (hcode : Cond.code y bytes maxL ret ∈ lw_g) (hlk : Cond.methodLink own index y ∈ lw_g) (hst : Cond.static y ∈ lw_g) (hini : Cond.initialized y.cls ∈ lw_g) (hdd : y.cls ≠ "java/lang/invoke/MethodHandle" ∧ y.cls ≠ "java/lang/invoke/VarHandle" ∧ (parseMethodDescriptor y.desc).map (fun d => d.parameters.length) = some As.length) (hR : rm.frames + 1 ≤ R.frames ∧ 8 + (maxL + 11) + rm.locals ≤ R.locals) (hcs : rm.cells = 0 ∧ rm.slots = 0) (hroom : cells ≤ R.cells ∧ slots ≤ R.slots) (hstk : st = As.reverse ++ rest) (hcat : (rest.map fun v => v.category).sum ≤ 8) (hd : decode cc pc = .ok (.invokestatic index, 3)) (k : ∀ (r : Int64) (w1 : va_W), post r w1 → ∃ e1, w1 = [(a0, e1)] ∧ Z p l e R s m args below meth c D A nL cells slots Q (pc + 3) lv (.long r :: rest) (w.set q0 (a0, e1))) : Z p l e R s m args below meth c D A nL cells slots Q pc lv st w := by
  intro H locs ls hP hD hS hv
  obtain ⟨hx, hb, hml, hown, hts, hK, hA, hN⟩ := id hX
  have hC : [q0].map (fun i => w[i]?) = ([(a0, e0)] : va_W).map some := by rw [List.map_cons, hq0]; rfl
  have hPc := hP.sub [q0] (z_fm _ _ _ hC)
  have hDc := hD.sub [q0] rfl hC
  have hFc := va_free (wc := [(a0, e0)]) hD hS hA [q0] hC
  have hCB : CallB R s args own index y bytes maxL ret (.code y bytes maxL ret :: lw_g) rm 0 0 As.length := callB_of As.length hts (z_goodC hcode) rfl hcs.1 hcs.2 (hts _ hini) (hts _ hlk) hdd hR
  refine va_calll (va_runS (As := As) (rest := rest) ⟨hx, hb, hml, hown, hts⟩ (hM H.size) ⟨hCB, hts _ hst⟩ ⟨fun a U g mk q => by obtain ⟨q0, q1, qP, qK, qD, qN⟩ := q; exact ⟨q0, q1, qP, va_K.moved (u := U) (U := U.calling g mk a) (Vm.Alike.refl U.vm) qK, qD, NW.same qN rfl⟩, fun U hU hW => ⟨rfl, by rw [hU], by rw [hU]; exact hPc, va_K.moved hW.alike hK, hDc.weaken (fun _ _ _ _ => trivial), hN.warm hW⟩⟩ rfl rfl hv.1 hstk (lv_room hcat) hd hroom) hS (fun q _ h => hFc q h) hFc (fun r u t H1 locs1 ht hvm hw hB hz1 hk1 hS1 => ?_)
  obtain ⟨hP1, hK1, hD1⟩ := hB
  rw [ht] at hP1
  obtain ⟨e1, rfl, hk⟩ := k r u hw
  exact hk H1 locs1 ls (va_join1 hP hD hq0 hk1 hP1) (hD.set hq0) hS1 hv
theorem Z.callS0v (hX : Zf p m c cc nL s args own D tys A) {y : MethodName} {bytes : ByteArray} {maxL index : Nat} {ret : Option FieldType} {rm : Room} {As rest : List Value} {post : va_W → Prop} (hM : Ct l y bytes maxL ret rm 0 0 D tys As [] (QV D tys post)) (hcode : Cond.code y bytes maxL ret ∈ lw_g) (hlk : Cond.methodLink own index y ∈ lw_g) (hst : Cond.static y ∈ lw_g) (hini : Cond.initialized y.cls ∈ lw_g) (hdd : y.cls ≠ "java/lang/invoke/MethodHandle" ∧ y.cls ≠ "java/lang/invoke/VarHandle" ∧ (parseMethodDescriptor y.desc).map (fun d => d.parameters.length) = some As.length) (hR : rm.frames + 1 ≤ R.frames ∧ 8 + (maxL + 11) + rm.locals ≤ R.locals) (hcs : rm.cells = 0 ∧ rm.slots = 0) (hroom : cells ≤ R.cells ∧ slots ≤ R.slots) (hstk : st = As.reverse ++ rest) (hcat : (rest.map fun v => v.category).sum ≤ 8) (hd : decode cc pc = .ok (.invokestatic index, 3)) (k : ∀ (w1 : va_W), post w1 → w1 = [] ∧ Z p l e R s m args below meth c D A nL cells slots Q (pc + 3) lv (rest) w) : Z p l e R s m args below meth c D A nL cells slots Q pc lv st w :=
  Z.callSv hX hM hcode hlk hst hini hdd hR hcs hroom [] (List.range w.length) rfl (z_rng w) rfl (z_ndr _) (fun _ _ h => by cases h) hstk hcat hd (fun w1 h => by
    obtain ⟨h1, h2⟩ := k w1 h
    rw [h1, List.append_nil]
    exact h2)
theorem Z.callSfv (hX : Zf p m c cc nL s args own D tys A) {y : MethodName} {bytes : ByteArray} {maxL index : Nat} {ret : Option FieldType} {rm : Room} {As rest : List Value} {post : va_W → Prop}  (hM : Ct l y bytes maxL ret rm 0 0 D tys As w (QV D tys post)) (hcode : Cond.code y bytes maxL ret ∈ lw_g) (hlk : Cond.methodLink own index y ∈ lw_g) (hst : Cond.static y ∈ lw_g) (hini : Cond.initialized y.cls ∈ lw_g) (hdd : y.cls ≠ "java/lang/invoke/MethodHandle" ∧ y.cls ≠ "java/lang/invoke/VarHandle" ∧ (parseMethodDescriptor y.desc).map (fun d => d.parameters.length) = some As.length) (hR : rm.frames + 1 ≤ R.frames ∧ 8 + (maxL + 11) + rm.locals ≤ R.locals) (hcs : rm.cells = 0 ∧ rm.slots = 0) (hroom : cells ≤ R.cells ∧ slots ≤ R.slots) (hstk : st = As.reverse ++ rest) (hcat : (rest.map fun v => v.category).sum ≤ 8) (hd : decode cc pc = .ok (.invokestatic index, 3)) (k : ∀ (w1 : va_W), post w1 → Z p l e R s m args below meth c D A nL cells slots Q (pc + 3) lv (rest) w1) : Z p l e R s m args below meth c D A nL cells slots Q pc lv st w :=
  Z.callSv (wr := []) hX hM hcode hlk hst hini hdd hR hcs hroom (List.range w.length) [] (z_rng w) rfl (z_ndr _) rfl (fun _ h => by cases h) hstk hcat hd (fun w1 h => k w1 h)
theorem Z.callVfv (hX : Zf p m c cc nL s args own D tys A) {y : MethodName} {bytes : ByteArray} {maxL index : Nat} {ret : Option FieldType} {rm : Room} {As rest : List Value} {post : va_W → Prop} {C : String} {T : u_T} {N b : Nat} {fs : List Value} (ci qb : Nat) (hci : vwCl[ci]? = some (C, T, N)) (hqb : w[qb]? = some (b, .inr (ci, fs))) (hM : Ct l y bytes maxL ret rm 0 0 D tys (.ref b :: As) w (QV D tys post)) (hcode : Cond.code y bytes maxL ret ∈ lw_g) (hlk : Cond.methodLink own index y ∈ lw_g) (hins : Cond.instanceMethod y ∈ lw_g) (hsel : Cond.selects C y y ∈ lw_g) (hini : Cond.initialized y.cls ∈ lw_g) (hdd : y.cls ≠ "java/lang/invoke/MethodHandle" ∧ y.cls ≠ "java/lang/invoke/VarHandle" ∧ (parseMethodDescriptor y.desc).map (fun d => d.parameters.length) = some As.length) (hR : rm.frames + 1 ≤ R.frames ∧ 8 + (maxL + 11) + rm.locals ≤ R.locals) (hcs : rm.cells = 0 ∧ rm.slots = 0) (hroom : cells ≤ R.cells ∧ slots ≤ R.slots) (hstk : st = As.reverse ++ .ref b :: rest) (hcat : (rest.map fun v => v.category).sum ≤ 8) (hd : decode cc pc = .ok (.invokevirtual index, 3)) (k : ∀ (w1 : va_W), post w1 → Z p l e R s m args below meth c D A nL cells slots Q (pc + 3) lv (rest) w1) : Z p l e R s m args below meth c D A nL cells slots Q pc lv st w :=
  Z.callVv (wr := []) hX ci qb hci hqb hM hcode hlk hins hsel hini hdd hR hcs hroom (List.range w.length) [] (z_rng w) rfl (z_ndr _) rfl (fun _ h => by cases h) hstk hcat hd (fun w1 h => k w1 h)
theorem Z.callS1v (hX : Zf p m c cc nL s args own D tys A) {y : MethodName} {bytes : ByteArray} {maxL index : Nat} {ret : Option FieldType} {rm : Room} {As rest : List Value} {post : va_W → Prop} (q0 : Nat) {a0 : Nat} {e0 : va_E} (hq0 : w[q0]? = some (a0, e0)) (hM : Ct l y bytes maxL ret rm 0 0 D tys As [(a0, e0)] (QV D tys post)) (hcode : Cond.code y bytes maxL ret ∈ lw_g) (hlk : Cond.methodLink own index y ∈ lw_g) (hst : Cond.static y ∈ lw_g) (hini : Cond.initialized y.cls ∈ lw_g) (hdd : y.cls ≠ "java/lang/invoke/MethodHandle" ∧ y.cls ≠ "java/lang/invoke/VarHandle" ∧ (parseMethodDescriptor y.desc).map (fun d => d.parameters.length) = some As.length) (hR : rm.frames + 1 ≤ R.frames ∧ 8 + (maxL + 11) + rm.locals ≤ R.locals) (hcs : rm.cells = 0 ∧ rm.slots = 0) (hroom : cells ≤ R.cells ∧ slots ≤ R.slots) (hstk : st = As.reverse ++ rest) (hcat : (rest.map fun v => v.category).sum ≤ 8) (hd : decode cc pc = .ok (.invokestatic index, 3)) (k : ∀ (w1 : va_W), post w1 → ∃ e1, w1 = [(a0, e1)] ∧ Z p l e R s m args below meth c D A nL cells slots Q (pc + 3) lv (rest) (w.set q0 (a0, e1))) : Z p l e R s m args below meth c D A nL cells slots Q pc lv st w := by
  intro H locs ls hP hD hS hv
  obtain ⟨hx, hb, hml, hown, hts, hK, hA, hN⟩ := id hX
  have hC : [q0].map (fun i => w[i]?) = ([(a0, e0)] : va_W).map some := by rw [List.map_cons, hq0]; rfl
  have hPc := hP.sub [q0] (z_fm _ _ _ hC)
  have hDc := hD.sub [q0] rfl hC
  have hFc := va_free (wc := [(a0, e0)]) hD hS hA [q0] hC
  have hCB : CallB R s args own index y bytes maxL ret (.code y bytes maxL ret :: lw_g) rm 0 0 As.length := callB_of As.length hts (z_goodC hcode) rfl hcs.1 hcs.2 (hts _ hini) (hts _ hlk) hdd hR
  refine va_callv (va_runS (As := As) (rest := rest) ⟨hx, hb, hml, hown, hts⟩ (hM H.size) ⟨hCB, hts _ hst⟩ ⟨fun a U g mk q => by obtain ⟨q0, q1, qP, qK, qD, qN⟩ := q; exact ⟨q0, q1, qP, va_K.moved (u := U) (U := U.calling g mk a) (Vm.Alike.refl U.vm) qK, qD, NW.same qN rfl⟩, fun U hU hW => ⟨rfl, by rw [hU], by rw [hU]; exact hPc, va_K.moved hW.alike hK, hDc.weaken (fun _ _ _ _ => trivial), hN.warm hW⟩⟩ rfl rfl hv.1 hstk (lv_room hcat) hd hroom) hS (fun q _ h => hFc q h) hFc (fun u t H1 locs1 ht hvm hw hB hz1 hk1 hS1 => ?_)
  obtain ⟨hP1, hK1, hD1⟩ := hB
  rw [ht] at hP1
  obtain ⟨e1, rfl, hk⟩ := k u hw
  exact hk H1 locs1 ls (va_join1 hP hD hq0 hk1 hP1) (hD.set hq0) hS1 hv
end ZR4
/-! the array classes, and the reference's cells -/
abbrev TY (ce : Nat → ClassId) : List (ClassId × FieldType) := [(ce 0, .int), (ce 1, .long), (ce 2, .boolean), (ce 3, .array .long), (ce 4, .object "EliminateLoci$Plane")]
def rW (ce : Nat → ClassId) (h : Nat → Nat) (F : Nat → Int) (I : Nat → Nat → Int32) (J : Nat → Nat → Int64) : va_W :=
  [(h 0, .inr (7, [.ref (h 1), .ref (h 2), .int (zI (F 0)), .int (zI (F 1)), .int (zI (F 2)), .ref (h 3), .ref (h 4), .ref (h 5), .ref (h 6), .ref (h 7), .ref (h 8), .ref (h 9), .ref (h 10), .ref (h 11), .ref (h 12), .ref (h 13), .ref (h 14)])),
   (h 1, .inl (ce 0, 15, .inl (I 0))), (h 2, .inl (ce 1, 15, .inr (.inl (J 0)))), (h 3, .inl (ce 2, 2, .inl (I 1))), (h 4, .inl (ce 1, 98, .inr (.inl (J 1)))), (h 5, .inl (ce 0, 2, .inl (I 2))), (h 6, .inl (ce 0, 2, .inl (I 3))),
   (h 7, .inl (ce 1, 5, .inr (.inl (J 2)))), (h 8, .inl (ce 1, 5, .inr (.inl (J 3)))), (h 9, .inl (ce 1, 192, .inr (.inl (J 4)))), (h 10, .inl (ce 1, 12544, .inr (.inl (J 5)))), (h 11, .inl (ce 1, 49, .inr (.inl (J 6)))), (h 12, .inl (ce 1, 49, .inr (.inl (J 7)))), (h 13, .inl (ce 1, 49, .inr (.inl (J 8)))), (h 14, .inl (ce 1, 49, .inr (.inl (J 9))))]
