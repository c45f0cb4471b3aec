theorem z_fm {α β : Type} (f : α → Option β) : ∀ (l : List α) (r : List β), l.map f = r.map some → l.filterMap f = r
  | [], [], _ => rfl
  | [], _ :: _, h => by cases h
  | _ :: _, [], h => by cases h
  | a :: l, b :: r, h => by
    have h1 : f a = some b ∧ l.map f = r.map some := by simpa using h
    rw [List.filterMap_cons, h1.1, z_fm f l r h1.2]
abbrev Bw (D : va_G) (tys : List (ClassId × FieldType)) (A : Nat → Prop) : va_W → State → Prop := fun w t => va_P D vwCl w t.heap ∧ va_K D vwCl tys t ∧ va_D A w
abbrev Pw (D : va_G) (tys : List (ClassId × FieldType)) (avs : List Value) (w : va_W) (sz : Nat) : Array Value → State → Prop := va_Pc avs (fun U => U.heap.size = sz ∧ va_P D vwCl w U.heap ∧ va_K D vwCl tys U ∧ va_D (fun _ => True) w)
abbrev QI (D : va_G) (tys : List (ClassId × FieldType)) (post : Int32 → va_W → Prop) (A : Nat → Prop) := va_Qi post (Bw D tys A) A
abbrev QL (D : va_G) (tys : List (ClassId × FieldType)) (post : Int64 → va_W → Prop) (A : Nat → Prop) := va_Ql post (Bw D tys A) A
abbrev QV (D : va_G) (tys : List (ClassId × FieldType)) (post : va_W → Prop) (A : Nat → Prop) := va_Qv post (Bw D tys A) A
/-- a method's contract: from the cells w and the arguments avs it returns, and QQ holds -/
def Ct (l : Launch) (y : MethodName) (cc : ByteArray) (nL : Nat) (ret : Option FieldType) (rm : Room) (mc ms : Nat) (D : va_G) (tys : List (ClassId × FieldType)) (avs : List Value) (w : va_W) (QQ : (Nat → Prop) → Array Value → State → Outcome → State → Prop) : Prop :=
  ∀ sz : Nat, Met l y (.code y cc nL ret :: lw_g) rm (Pw D tys avs w sz) (QQ (va_A w sz)) mc ms (va_A w sz)
theorem Ct.of {l : Launch} {y : MethodName} {cc : ByteArray} {nL : Nat} {ret : Option FieldType} {rm : Room} {mc ms : Nat} {D : va_G} {tys : List (ClassId × FieldType)} {avs : List Value} {w : va_W} {QQ : (Nat → Prop) → Array Value → State → Outcome → State → Prop} (hy : plainName y.cls = true) (hlen : (lg_sl avs).length ≤ nL)
    (body : ∀ (p : Program) (e : Env) (s : State) (m : MethodId) (args : Array Value) (below : List Frame) (meth : Method) (c : Code) (A : Nat → Prop), Zf p m c cc nL s args y.cls D tys A → meth.sig.returnType = ret → meth.locks = false → Z p l e rm s m args below meth c D A nL 0 0 (MQ below (QQ A) args s mc ms A) 0 (lv_args 0 avs) [] w) : Ct l y cc nL ret rm mc ms D tys avs w QQ := by
  intro sz
  refine Met.ofW (cc := cc) (maxL := nL) (ret := ret) hy rfl ?_
  intro p e s m args below meth c s₁ B hml hv
  obtain ⟨rfl, hsz, hP, hK, hD0⟩ := hv
  subst hsz
  have hts := atoms_spec (ws := .code y cc nL ret :: lw_g) B.pre
  have hX : Zf p m c cc nL s avs.toArray y.cls D tys (va_A w s.heap.size) := ⟨B.exec, B.bytes, hml, findClass_of_methodNamed B.named, fun x hx => hts x (List.mem_cons_of_mem _ hx), hK, fun q h => Or.inr h⟩
  rw [lg_entry_eq]
  exact body p e s m avs.toArray below meth c (va_A w s.heap.size) hX B.returns B.notSynchronized s.heap [] _ hP hD0.self va_S.rf (lv_entry avs hlen)
section ZR3
variable {p : Program} {l : Launch} {e : Env} {R : Room} {s : State} {m : MethodId} {args : Array Value} {below : List Frame} {meth : Method} {c : Code} {D : va_G} {A : Nat → Prop} {nL cells slots : Nat} {Q : State → Prop}
variable {cc : ByteArray} {own : String} {tys : List (ClassId × FieldType)} {pc : Nat} {lv : List (Nat × Value)} {st : List Value} {w : va_W}
theorem Z.perm {w' : va_W} (is : List Nat) (h1 : va_nd is = true) (h2 : is.map (fun i => w[i]?) = w'.map some) (k : Z p l e R s m args below meth c D A nL cells slots Q pc lv st w') : Z p l e R s m args below meth c D A nL cells slots Q pc lv st w := fun H locs ls hP hD hS hv => k H locs ls (hP.sub is (z_fm _ _ _ h2)) (hD.sub is h1 h2) hS hv
theorem Z.widen {k n : Nat} (h1 : cells ≤ k) (h2 : slots ≤ n) (kk : Z p l e R s m args below meth c D A nL k n Q pc lv st w) : Z p l e R s m args below meth c D A nL cells slots Q pc lv st w := fun H locs ls hP hD hS hv => W.widen h1 h2 (kk H locs ls hP hD hS hv)
theorem Z.iret (hX : Zf p m c cc nL s args own D tys A) {mc ms : Nat} {post : Int32 → va_W → Prop} {v : Int32} (hr : meth.sig.returnType = some .int) (hlk : meth.locks = false) (hd : decode cc pc = .ok (.ireturn, 1)) (h : post v w) : Z p l e R s m args below meth c D A nL mc ms (MQ below (QI D tys post A) args s mc ms A) pc lv [.int v] w := fun H locs ls hP hD hS hv => W.iret hX.1 hX.2.1 hr (fun t ht hW => ⟨⟨v, w, rfl, h, by rw [ht]; exact hP, va_K.moved hW.alike hX.2.2.2.2.2.1, hD⟩, hS.F ht⟩) hS.2.2 hd hlk
theorem Z.zret (hX : Zf p m c cc nL s args own D tys A) {mc ms : Nat} {post : Int32 → va_W → Prop} {v : Int32} (hr : meth.sig.returnType = some .boolean) (hlk : meth.locks = false) (hd : decode cc pc = .ok (.ireturn, 1)) (hn : narrow .boolean (.int v) = .int v) (h : post v w) : Z p l e R s m args below meth c D A nL mc ms (MQ below (QI D tys post A) args s mc ms A) pc lv [.int v] w := fun H locs ls hP hD hS hv => W.zret hX.1 hX.2.1 hr hn (fun t ht hW => ⟨⟨v, w, rfl, h, by rw [ht]; exact hP, va_K.moved hW.alike hX.2.2.2.2.2.1, hD⟩, hS.F ht⟩) hS.2.2 hd hlk
theorem Z.lret (hX : Zf p m c cc nL s args own D tys A) {mc ms : Nat} {post : Int64 → va_W → Prop} {v : Int64} (hr : meth.sig.returnType = some .long) (hlk : meth.locks = false) (hd : decode cc pc = .ok (.lreturn, 1)) (h : post v w) : Z p l e R s m args below meth c D A nL mc ms (MQ below (QL D tys post A) args s mc ms A) pc lv [.long v] w := fun H locs ls hP hD hS hv => W.lret hX.1 hX.2.1 hr (fun t ht hW => ⟨⟨v, w, rfl, h, by rw [ht]; exact hP, va_K.moved hW.alike hX.2.2.2.2.2.1, hD⟩, hS.F ht⟩) hS.2.2 hd hlk
theorem Z.vret (hX : Zf p m c cc nL s args own D tys A) {mc ms : Nat} {post : va_W → Prop} (hr : meth.sig.returnType = none) (hlk : meth.locks = false) (hd : decode cc pc = .ok (.return_, 1)) (h : post w) : Z p l e R s m args below meth c D A nL mc ms (MQ below (QV D tys post A) args s mc ms A) pc lv [] w := fun H locs ls hP hD hS hv => W.vret hX.1 hX.2.1 hr (fun t ht hW => ⟨⟨w, rfl, h, by rw [ht]; exact hP, va_K.moved hW.alike hX.2.2.2.2.2.1, hD⟩, hS.F ht⟩) hS.2.2 hd hlk
theorem Z.callSi (hX : Zf p m c cc nL s args own D tys A) {y : MethodName} {bytes : ByteArray} {maxL mc ms index : Nat} {ret : Option FieldType} {rm : Room} {As rest : List Value} {wc wr : va_W} {post : Int32 → va_W → Prop}  (hM : Ct l y bytes maxL ret rm mc ms D tys As wc (QI D tys post)) (hcode : Cond.code y bytes maxL ret ∈ lw_g) (hlk : Cond.methodLink own index y ∈ lw_g) (hst : Cond.static y ∈ lw_g) (hini : Cond.initialized y.cls ∈ lw_g) (hdd : y.cls ≠ "java/lang/invoke/MethodHandle" ∧ y.cls ≠ "java/lang/invoke/VarHandle" ∧ (parseMethodDescriptor y.desc).map (fun d => d.parameters.length) = some As.length) (hR : rm.frames + 1 ≤ R.frames ∧ 8 + (maxL + 11) + rm.locals ≤ R.locals) (hcs : rm.cells = mc ∧ rm.slots = ms) (hroom : cells + mc ≤ R.cells ∧ slots + ms ≤ R.slots) (isC isR : List Nat) (hC : isC.map (fun i => w[i]?) = wc.map some) (hRr : isR.map (fun i => w[i]?) = wr.map some) (hnc : va_nd isC = true) (hnd : va_nd isR = true) (hdis : ∀ i ∈ isR, i ∉ isC) (hstk : st = As.reverse ++ rest) (hcat : (rest.map fun v => v.category).sum ≤ 8) (hd : decode cc pc = .ok (.invokestatic index, 3)) (k : ∀ (r : Int32) (w1 : va_W), post r w1 → Z p l e R s m args below meth c D A nL (cells + mc) (slots + ms) Q (pc + 3) lv (.int r :: rest) (wr ++ w1)) : Z p l e R s m args below meth c D A nL cells slots Q pc lv st w := by
  intro H locs ls hP hD hS hv
  obtain ⟨hx, hb, hml, hown, hts, hK, hA⟩ := id hX
  have hPc := hP.sub isC (z_fm _ _ _ hC)
  have hDc := hD.sub isC hnc hC
  have hFc := va_free (wc := wc) hD hS hA isC hC
  have hCB : CallB R s args own index y bytes maxL ret (.code y bytes maxL ret :: lw_g) rm mc ms As.length := callB_of As.length hts (z_goodC hcode) rfl hcs.1 hcs.2 (hts _ hini) (hts _ hlk) hdd hR
  refine va_calli (va_runS (As := As) (rest := rest) ⟨hx, hb, hml, hown, hts⟩ (hM H.size) ⟨hCB, hts _ hst⟩ ⟨fun a U g mk q => by obtain ⟨q0, q1, qP, qK, qD⟩ := q; exact ⟨q0, q1, qP, va_K.moved (u := U) (U := U.calling g mk a) (Vm.Alike.refl U.vm) qK, qD⟩, fun U hU hW => ⟨rfl, by rw [hU], by rw [hU]; exact hPc, va_K.moved hW.alike hK, hDc.weaken (fun _ _ _ _ => trivial)⟩⟩ rfl rfl hv.1 hstk (lv_room hcat) hd hroom) hS (fun q _ h => hFc q h) hFc (fun r u t H1 locs1 ht hvm hw hB hz1 hk1 hS1 => ?_)
  obtain ⟨hP1, hK1, hD1⟩ := hB
  rw [ht] at hP1
  obtain ⟨hP2, hD2⟩ := va_join (wr := wr) (w1 := u) hP hD isC isR hC hRr hnd hdis hk1 hFc hP1 hD1
  exact k r u hw H1 locs1 ls hP2 hD2 hS1 hv
theorem Z.callVi (hX : Zf p m c cc nL s args own D tys A) {y : MethodName} {bytes : ByteArray} {maxL mc ms index : Nat} {ret : Option FieldType} {rm : Room} {As rest : List Value} {wc wr : va_W} {post : Int32 → va_W → Prop} {C : String} {T : u_T} {N b : Nat} {fs : List Value} (ci qb : Nat) (hci : vwCl[ci]? = some (C, T, N)) (hqb : wc[qb]? = some (b, .inr (ci, fs))) (hM : Ct l y bytes maxL ret rm mc ms D tys (.ref b :: As) wc (QI D tys post)) (hcode : Cond.code y bytes maxL ret ∈ lw_g) (hlk : Cond.methodLink own index y ∈ lw_g) (hins : Cond.instanceMethod y ∈ lw_g) (hsel : Cond.selects C y y ∈ lw_g) (hini : Cond.initialized y.cls ∈ lw_g) (hdd : y.cls ≠ "java/lang/invoke/MethodHandle" ∧ y.cls ≠ "java/lang/invoke/VarHandle" ∧ (parseMethodDescriptor y.desc).map (fun d => d.parameters.length) = some As.length) (hR : rm.frames + 1 ≤ R.frames ∧ 8 + (maxL + 11) + rm.locals ≤ R.locals) (hcs : rm.cells = mc ∧ rm.slots = ms) (hroom : cells + mc ≤ R.cells ∧ slots + ms ≤ R.slots) (isC isR : List Nat) (hC : isC.map (fun i => w[i]?) = wc.map some) (hRr : isR.map (fun i => w[i]?) = wr.map some) (hnc : va_nd isC = true) (hnd : va_nd isR = true) (hdis : ∀ i ∈ isR, i ∉ isC) (hstk : st = As.reverse ++ .ref b :: rest) (hcat : (rest.map fun v => v.category).sum ≤ 8) (hd : decode cc pc = .ok (.invokevirtual index, 3)) (k : ∀ (r : Int32) (w1 : va_W), post r w1 → Z p l e R s m args below meth c D A nL (cells + mc) (slots + ms) Q (pc + 3) lv (.int r :: rest) (wr ++ w1)) : Z p l e R s m args below meth c D A nL cells slots Q pc lv st w := by
  intro H locs ls hP hD hS hv
  obtain ⟨hx, hb, hml, hown, hts, hK, hA⟩ := id hX
  have hPc := hP.sub isC (z_fm _ _ _ hC)
  have hDc := hD.sub isC hnc hC
  have hFc := va_free (wc := wc) hD hS hA isC hC
  have hCB : CallB R s args own index y bytes maxL ret (.code y bytes maxL ret :: lw_g) rm mc ms As.length := callB_of As.length hts (z_goodC hcode) rfl hcs.1 hcs.2 (hts _ hini) (hts _ hlk) hdd hR
  refine va_calli (va_runV (C := C) (b := b) (As := As) (rest := rest) ⟨hx, hb, hml, hown, hts⟩ (hM H.size) ⟨hCB, hts _ hins, hts _ hsel⟩ ⟨fun a U g mk q => by obtain ⟨q0, q1, qP, qK, qD⟩ := q; exact ⟨q0, q1, qP, va_K.moved (u := U) (U := U.calling g mk a) (Vm.Alike.refl U.vm) qK, qD⟩, va_recv hK hPc (ci := ci) (q0 := qb) hci hqb, fun U hU hW => ⟨rfl, by rw [hU], by rw [hU]; exact hPc, va_K.moved hW.alike hK, hDc.weaken (fun _ _ _ _ => trivial)⟩⟩ rfl rfl hv.1 hstk (lv_room hcat) hd hroom) hS (fun q _ h => hFc q h) hFc (fun r u t H1 locs1 ht hvm hw hB hz1 hk1 hS1 => ?_)
  obtain ⟨hP1, hK1, hD1⟩ := hB
  rw [ht] at hP1
  obtain ⟨hP2, hD2⟩ := va_join (wr := wr) (w1 := u) hP hD isC isR hC hRr hnd hdis hk1 hFc hP1 hD1
  exact k r u hw H1 locs1 ls hP2 hD2 hS1 hv
theorem Z.callSl (hX : Zf p m c cc nL s args own D tys A) {y : MethodName} {bytes : ByteArray} {maxL mc ms index : Nat} {ret : Option FieldType} {rm : Room} {As rest : List Value} {wc wr : va_W} {post : Int64 → va_W → Prop}  (hM : Ct l y bytes maxL ret rm mc ms D tys As wc (QL D tys post)) (hcode : Cond.code y bytes maxL ret ∈ lw_g) (hlk : Cond.methodLink own index y ∈ lw_g) (hst : Cond.static y ∈ lw_g) (hini : Cond.initialized y.cls ∈ lw_g) (hdd : y.cls ≠ "java/lang/invoke/MethodHandle" ∧ y.cls ≠ "java/lang/invoke/VarHandle" ∧ (parseMethodDescriptor y.desc).map (fun d => d.parameters.length) = some As.length) (hR : rm.frames + 1 ≤ R.frames ∧ 8 + (maxL + 11) + rm.locals ≤ R.locals) (hcs : rm.cells = mc ∧ rm.slots = ms) (hroom : cells + mc ≤ R.cells ∧ slots + ms ≤ R.slots) (isC isR : List Nat) (hC : isC.map (fun i => w[i]?) = wc.map some) (hRr : isR.map (fun i => w[i]?) = wr.map some) (hnc : va_nd isC = true) (hnd : va_nd isR = true) (hdis : ∀ i ∈ isR, i ∉ isC) (hstk : st = As.reverse ++ rest) (hcat : (rest.map fun v => v.category).sum ≤ 8) (hd : decode cc pc = .ok (.invokestatic index, 3)) (k : ∀ (r : Int64) (w1 : va_W), post r w1 → Z p l e R s m args below meth c D A nL (cells + mc) (slots + ms) Q (pc + 3) lv (.long r :: rest) (wr ++ w1)) : Z p l e R s m args below meth c D A nL cells slots Q pc lv st w := by
  intro H locs ls hP hD hS hv
  obtain ⟨hx, hb, hml, hown, hts, hK, hA⟩ := id hX
  have hPc := hP.sub isC (z_fm _ _ _ hC)
  have hDc := hD.sub isC hnc hC
  have hFc := va_free (wc := wc) hD hS hA isC hC
  have hCB : CallB R s args own index y bytes maxL ret (.code y bytes maxL ret :: lw_g) rm mc ms As.length := callB_of As.length hts (z_goodC hcode) rfl hcs.1 hcs.2 (hts _ hini) (hts _ hlk) hdd hR
  refine va_calll (va_runS (As := As) (rest := rest) ⟨hx, hb, hml, hown, hts⟩ (hM H.size) ⟨hCB, hts _ hst⟩ ⟨fun a U g mk q => by obtain ⟨q0, q1, qP, qK, qD⟩ := q; exact ⟨q0, q1, qP, va_K.moved (u := U) (U := U.calling g mk a) (Vm.Alike.refl U.vm) qK, qD⟩, fun U hU hW => ⟨rfl, by rw [hU], by rw [hU]; exact hPc, va_K.moved hW.alike hK, hDc.weaken (fun _ _ _ _ => trivial)⟩⟩ rfl rfl hv.1 hstk (lv_room hcat) hd hroom) hS (fun q _ h => hFc q h) hFc (fun r u t H1 locs1 ht hvm hw hB hz1 hk1 hS1 => ?_)
  obtain ⟨hP1, hK1, hD1⟩ := hB
  rw [ht] at hP1
  obtain ⟨hP2, hD2⟩ := va_join (wr := wr) (w1 := u) hP hD isC isR hC hRr hnd hdis hk1 hFc hP1 hD1
  exact k r u hw H1 locs1 ls hP2 hD2 hS1 hv
theorem Z.callVl (hX : Zf p m c cc nL s args own D tys A) {y : MethodName} {bytes : ByteArray} {maxL mc ms index : Nat} {ret : Option FieldType} {rm : Room} {As rest : List Value} {wc wr : va_W} {post : Int64 → va_W → Prop} {C : String} {T : u_T} {N b : Nat} {fs : List Value} (ci qb : Nat) (hci : vwCl[ci]? = some (C, T, N)) (hqb : wc[qb]? = some (b, .inr (ci, fs))) (hM : Ct l y bytes maxL ret rm mc ms D tys (.ref b :: As) wc (QL D tys post)) (hcode : Cond.code y bytes maxL ret ∈ lw_g) (hlk : Cond.methodLink own index y ∈ lw_g) (hins : Cond.instanceMethod y ∈ lw_g) (hsel : Cond.selects C y y ∈ lw_g) (hini : Cond.initialized y.cls ∈ lw_g) (hdd : y.cls ≠ "java/lang/invoke/MethodHandle" ∧ y.cls ≠ "java/lang/invoke/VarHandle" ∧ (parseMethodDescriptor y.desc).map (fun d => d.parameters.length) = some As.length) (hR : rm.frames + 1 ≤ R.frames ∧ 8 + (maxL + 11) + rm.locals ≤ R.locals) (hcs : rm.cells = mc ∧ rm.slots = ms) (hroom : cells + mc ≤ R.cells ∧ slots + ms ≤ R.slots) (isC isR : List Nat) (hC : isC.map (fun i => w[i]?) = wc.map some) (hRr : isR.map (fun i => w[i]?) = wr.map some) (hnc : va_nd isC = true) (hnd : va_nd isR = true) (hdis : ∀ i ∈ isR, i ∉ isC) (hstk : st = As.reverse ++ .ref b :: rest) (hcat : (rest.map fun v => v.category).sum ≤ 8) (hd : decode cc pc = .ok (.invokevirtual index, 3)) (k : ∀ (r : Int64) (w1 : va_W), post r w1 → Z p l e R s m args below meth c D A nL (cells + mc) (slots + ms) Q (pc + 3) lv (.long r :: rest) (wr ++ w1)) : Z p l e R s m args below meth c D A nL cells slots Q pc lv st w := by
  intro H locs ls hP hD hS hv
  obtain ⟨hx, hb, hml, hown, hts, hK, hA⟩ := id hX
  have hPc := hP.sub isC (z_fm _ _ _ hC)
  have hDc := hD.sub isC hnc hC
  have hFc := va_free (wc := wc) hD hS hA isC hC
  have hCB : CallB R s args own index y bytes maxL ret (.code y bytes maxL ret :: lw_g) rm mc ms As.length := callB_of As.length hts (z_goodC hcode) rfl hcs.1 hcs.2 (hts _ hini) (hts _ hlk) hdd hR
  refine va_calll (va_runV (C := C) (b := b) (As := As) (rest := rest) ⟨hx, hb, hml, hown, hts⟩ (hM H.size) ⟨hCB, hts _ hins, hts _ hsel⟩ ⟨fun a U g mk q => by obtain ⟨q0, q1, qP, qK, qD⟩ := q; exact ⟨q0, q1, qP, va_K.moved (u := U) (U := U.calling g mk a) (Vm.Alike.refl U.vm) qK, qD⟩, va_recv hK hPc (ci := ci) (q0 := qb) hci hqb, fun U hU hW => ⟨rfl, by rw [hU], by rw [hU]; exact hPc, va_K.moved hW.alike hK, hDc.weaken (fun _ _ _ _ => trivial)⟩⟩ rfl rfl hv.1 hstk (lv_room hcat) hd hroom) hS (fun q _ h => hFc q h) hFc (fun r u t H1 locs1 ht hvm hw hB hz1 hk1 hS1 => ?_)
  obtain ⟨hP1, hK1, hD1⟩ := hB
  rw [ht] at hP1
  obtain ⟨hP2, hD2⟩ := va_join (wr := wr) (w1 := u) hP hD isC isR hC hRr hnd hdis hk1 hFc hP1 hD1
  exact k r u hw H1 locs1 ls hP2 hD2 hS1 hv
theorem Z.callSv (hX : Zf p m c cc nL s args own D tys A) {y : MethodName} {bytes : ByteArray} {maxL mc ms index : Nat} {ret : Option FieldType} {rm : Room} {As rest : List Value} {wc wr : va_W} {post : va_W → Prop}  (hM : Ct l y bytes maxL ret rm mc ms D tys As wc (QV D tys post)) (hcode : Cond.code y bytes maxL ret ∈ lw_g) (hlk : Cond.methodLink own index y ∈ lw_g) (hst : Cond.static y ∈ lw_g) (hini : Cond.initialized y.cls ∈ lw_g) (hdd : y.cls ≠ "java/lang/invoke/MethodHandle" ∧ y.cls ≠ "java/lang/invoke/VarHandle" ∧ (parseMethodDescriptor y.desc).map (fun d => d.parameters.length) = some As.length) (hR : rm.frames + 1 ≤ R.frames ∧ 8 + (maxL + 11) + rm.locals ≤ R.locals) (hcs : rm.cells = mc ∧ rm.slots = ms) (hroom : cells + mc ≤ R.cells ∧ slots + ms ≤ R.slots) (isC isR : List Nat) (hC : isC.map (fun i => w[i]?) = wc.map some) (hRr : isR.map (fun i => w[i]?) = wr.map some) (hnc : va_nd isC = true) (hnd : va_nd isR = true) (hdis : ∀ i ∈ isR, i ∉ isC) (hstk : st = As.reverse ++ rest) (hcat : (rest.map fun v => v.category).sum ≤ 8) (hd : decode cc pc = .ok (.invokestatic index, 3)) (k : ∀ (w1 : va_W), post w1 → Z p l e R s m args below meth c D A nL (cells + mc) (slots + ms) Q (pc + 3) lv (rest) (wr ++ w1)) : Z p l e R s m args below meth c D A nL cells slots Q pc lv st w := by
  intro H locs ls hP hD hS hv
  obtain ⟨hx, hb, hml, hown, hts, hK, hA⟩ := id hX
  have hPc := hP.sub isC (z_fm _ _ _ hC)
  have hDc := hD.sub isC hnc hC
  have hFc := va_free (wc := wc) hD hS hA isC hC
  have hCB : CallB R s args own index y bytes maxL ret (.code y bytes maxL ret :: lw_g) rm mc ms As.length := callB_of As.length hts (z_goodC hcode) rfl hcs.1 hcs.2 (hts _ hini) (hts _ hlk) hdd hR
  refine va_callv (va_runS (As := As) (rest := rest) ⟨hx, hb, hml, hown, hts⟩ (hM H.size) ⟨hCB, hts _ hst⟩ ⟨fun a U g mk q => by obtain ⟨q0, q1, qP, qK, qD⟩ := q; exact ⟨q0, q1, qP, va_K.moved (u := U) (U := U.calling g mk a) (Vm.Alike.refl U.vm) qK, qD⟩, fun U hU hW => ⟨rfl, by rw [hU], by rw [hU]; exact hPc, va_K.moved hW.alike hK, hDc.weaken (fun _ _ _ _ => trivial)⟩⟩ rfl rfl hv.1 hstk (lv_room hcat) hd hroom) hS (fun q _ h => hFc q h) hFc (fun u t H1 locs1 ht hvm hw hB hz1 hk1 hS1 => ?_)
  obtain ⟨hP1, hK1, hD1⟩ := hB
  rw [ht] at hP1
  obtain ⟨hP2, hD2⟩ := va_join (wr := wr) (w1 := u) hP hD isC isR hC hRr hnd hdis hk1 hFc hP1 hD1
  exact k u hw H1 locs1 ls hP2 hD2 hS1 hv
theorem Z.callVv (hX : Zf p m c cc nL s args own D tys A) {y : MethodName} {bytes : ByteArray} {maxL mc ms index : Nat} {ret : Option FieldType} {rm : Room} {As rest : List Value} {wc wr : va_W} {post : va_W → Prop} {C : String} {T : u_T} {N b : Nat} {fs : List Value} (ci qb : Nat) (hci : vwCl[ci]? = some (C, T, N)) (hqb : wc[qb]? = some (b, .inr (ci, fs))) (hM : Ct l y bytes maxL ret rm mc ms D tys (.ref b :: As) wc (QV D tys post)) (hcode : Cond.code y bytes maxL ret ∈ lw_g) (hlk : Cond.methodLink own index y ∈ lw_g) (hins : Cond.instanceMethod y ∈ lw_g) (hsel : Cond.selects C y y ∈ lw_g) (hini : Cond.initialized y.cls ∈ lw_g) (hdd : y.cls ≠ "java/lang/invoke/MethodHandle" ∧ y.cls ≠ "java/lang/invoke/VarHandle" ∧ (parseMethodDescriptor y.desc).map (fun d => d.parameters.length) = some As.length) (hR : rm.frames + 1 ≤ R.frames ∧ 8 + (maxL + 11) + rm.locals ≤ R.locals) (hcs : rm.cells = mc ∧ rm.slots = ms) (hroom : cells + mc ≤ R.cells ∧ slots + ms ≤ R.slots) (isC isR : List Nat) (hC : isC.map (fun i => w[i]?) = wc.map some) (hRr : isR.map (fun i => w[i]?) = wr.map some) (hnc : va_nd isC = true) (hnd : va_nd isR = true) (hdis : ∀ i ∈ isR, i ∉ isC) (hstk : st = As.reverse ++ .ref b :: rest) (hcat : (rest.map fun v => v.category).sum ≤ 8) (hd : decode cc pc = .ok (.invokevirtual index, 3)) (k : ∀ (w1 : va_W), post w1 → Z p l e R s m args below meth c D A nL (cells + mc) (slots + ms) Q (pc + 3) lv (rest) (wr ++ w1)) : Z p l e R s m args below meth c D A nL cells slots Q pc lv st w := by
  intro H locs ls hP hD hS hv
  obtain ⟨hx, hb, hml, hown, hts, hK, hA⟩ := id hX
  have hPc := hP.sub isC (z_fm _ _ _ hC)
  have hDc := hD.sub isC hnc hC
  have hFc := va_free (wc := wc) hD hS hA isC hC
  have hCB : CallB R s args own index y bytes maxL ret (.code y bytes maxL ret :: lw_g) rm mc ms As.length := callB_of As.length hts (z_goodC hcode) rfl hcs.1 hcs.2 (hts _ hini) (hts _ hlk) hdd hR
  refine va_callv (va_runV (C := C) (b := b) (As := As) (rest := rest) ⟨hx, hb, hml, hown, hts⟩ (hM H.size) ⟨hCB, hts _ hins, hts _ hsel⟩ ⟨fun a U g mk q => by obtain ⟨q0, q1, qP, qK, qD⟩ := q; exact ⟨q0, q1, qP, va_K.moved (u := U) (U := U.calling g mk a) (Vm.Alike.refl U.vm) qK, qD⟩, va_recv hK hPc (ci := ci) (q0 := qb) hci hqb, fun U hU hW => ⟨rfl, by rw [hU], by rw [hU]; exact hPc, va_K.moved hW.alike hK, hDc.weaken (fun _ _ _ _ => trivial)⟩⟩ rfl rfl hv.1 hstk (lv_room hcat) hd hroom) hS (fun q _ h => hFc q h) hFc (fun u t H1 locs1 ht hvm hw hB hz1 hk1 hS1 => ?_)
  obtain ⟨hP1, hK1, hD1⟩ := hB
  rw [ht] at hP1
  obtain ⟨hP2, hD2⟩ := va_join (wr := wr) (w1 := u) hP hD isC isR hC hRr hnd hdis hk1 hFc hP1 hD1
  exact k u hw H1 locs1 ls hP2 hD2 hS1 hv
theorem Z.callIv (hX : Zf p m c cc nL s args own D tys A) {y : MethodName} {bytes : ByteArray} {maxL mc ms index : Nat} {ret : Option FieldType} {rm : Room} {As rest : List Value} {wc wr : va_W} {post : va_W → Prop} {b : Nat} (hM : Ct l y bytes maxL none rm mc ms D tys (.ref b :: As) wc (QV D tys post)) (hcode : Cond.code y bytes maxL none ∈ lw_g) (hlk : Cond.methodLink own index y ∈ lw_g) (hnm : y.name = "<init>") (hins : Cond.instanceMethod y ∈ lw_g) (hini : Cond.initialized y.cls ∈ lw_g) (hdd : y.cls ≠ "java/lang/invoke/MethodHandle" ∧ y.cls ≠ "java/lang/invoke/VarHandle" ∧ (parseMethodDescriptor y.desc).map (fun d => d.parameters.length) = some As.length) (hR : rm.frames + 1 ≤ R.frames ∧ 8 + (maxL + 11) + rm.locals ≤ R.locals) (hcs : rm.cells = mc ∧ rm.slots = ms) (hroom : cells + mc ≤ R.cells ∧ slots + ms ≤ R.slots) (isC isR : List Nat) (hC : isC.map (fun i => w[i]?) = wc.map some) (hRr : isR.map (fun i => w[i]?) = wr.map some) (hnc : va_nd isC = true) (hnd : va_nd isR = true) (hdis : ∀ i ∈ isR, i ∉ isC) (hstk : st = As.reverse ++ .ref b :: rest) (hcat : (rest.map fun v => v.category).sum ≤ 8) (hd : decode cc pc = .ok (.invokespecial index, 3)) (k : ∀ (w1 : va_W), post w1 → Z p l e R s m args below meth c D A nL (cells + mc) (slots + ms) Q (pc + 3) lv (rest) (wr ++ w1)) : Z p l e R s m args below meth c D A nL cells slots Q pc lv st w := by
  intro H locs ls hP hD hS hv
  obtain ⟨hx, hb, hml, hown, hts, hK, hA⟩ := id hX
  have hPc := hP.sub isC (z_fm _ _ _ hC)
  have hDc := hD.sub isC hnc hC
  have hFc := va_free (wc := wc) hD hS hA isC hC
  have hCB : CallB R s args own index y bytes maxL none (.code y bytes maxL none :: lw_g) rm mc ms As.length := callB_of As.length hts (z_goodC hcode) rfl hcs.1 hcs.2 (hts _ hini) (hts _ hlk) hdd hR
  refine va_callv (va_runI (b := b) (As := As) (rest := rest) ⟨hx, hb, hml, hown, hts⟩ (hM H.size) ⟨hCB, hnm, hts _ hins⟩ ⟨fun a U g mk q => by obtain ⟨q0, q1, qP, qK, qD⟩ := q; exact ⟨q0, q1, qP, va_K.moved (u := U) (U := U.calling g mk a) (Vm.Alike.refl U.vm) qK, qD⟩, fun U hU hW => ⟨rfl, by rw [hU], by rw [hU]; exact hPc, va_K.moved hW.alike hK, hDc.weaken (fun _ _ _ _ => trivial)⟩⟩ rfl rfl hv.1 hstk (lv_room hcat) hd hroom) hS (fun q _ h => hFc q h) hFc (fun u t H1 locs1 ht hvm hw hB hz1 hk1 hS1 => ?_)
  obtain ⟨hP1, hK1, hD1⟩ := hB
  rw [ht] at hP1
  obtain ⟨hP2, hD2⟩ := va_join (wr := wr) (w1 := u) hP hD isC isR hC hRr hnd hdis hk1 hFc hP1 hD1
  exact k u hw H1 locs1 ls hP2 hD2 hS1 hv
end ZR3
