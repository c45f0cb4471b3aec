/-! methods that answer a reference -/
abbrev QR (D : va_G) (tys : List (ClassId × FieldType)) (post : Nat → va_W → Prop) (A : Nat → Prop) := va_Qr (S := Nat × va_W) (fun u => post u.1 u.2) (fun u a t => a = u.1 ∧ Bw D tys A u.2 t) A
theorem Ct.ofR {l : Launch} {y : MethodName} {cc : ByteArray} {nL : Nat} {rm : Room} {mc ms : Nat} {D : va_G} {tys : List (ClassId × FieldType)} {avs : List Value} {w : va_W} {post : Nat → va_W → Prop} {rt : FieldType} (hy : plainName y.cls = true) (hlen : (lg_sl avs).length ≤ nL) (hrt : (∃ n, rt = .object n) ∨ ∃ t, rt = .array t)
    (body : ∀ (p : Program) (e : Env) (s : State) (m : MethodId) (args : Array Value) (below : List Frame) (meth : Method) (c : Code) (A : Nat → Prop) (Q : State → Prop), Zf p m c cc nL s args y.cls D tys A → meth.name = y.name → (∀ (pc : Nat) (lv : List (Nat × Value)) (v : Nat) (w1 : va_W), decode cc pc = .ok (.areturn, 1) → post v w1 → Z p l e rm s m args below meth c D A nL mc ms Q pc lv [.ref v] w1) → Z p l e rm s m args below meth c D A nL 0 0 Q 0 (lv_args 0 avs) [] w) : Ct l y cc nL (some rt) rm mc ms D tys avs w (QR D tys post) := by
  intro sz
  refine Met.ofW (cc := cc) (maxL := nL) (ret := some rt) hy rfl ?_
  intro p e s m args below meth c s₁ B hml hv
  obtain ⟨rfl, hsz, hP, hK, hD0, hN⟩ := hv
  subst hsz
  have hts := atoms_spec (ws := .code y cc nL (some rt) :: lw_g) B.pre
  have hX : Zf p m c cc nL s avs.toArray y.cls D tys (va_A w s.heap.size) := ⟨B.exec, B.bytes, hml, findClass_of_methodNamed B.named, fun x hx => hts x (List.mem_cons_of_mem _ hx), hK, fun q h => Or.inr h, hN⟩
  have hnm : meth.name = y.name := (name_of_methodNamed B.named B.method).1
  rw [lg_entry_eq]
  refine body p e s m avs.toArray below meth c (va_A w s.heap.size) _ hX hnm (fun pc lv v w1 hd h => ?_) s.heap [] _ hP hD0.self va_S.rf (lv_entry avs hlen)
  exact fun H locs ls hP hD hS hv => W.aret hX.1 hX.2.1 B.returns hrt (Or.inr ⟨v, rfl⟩) (fun t ht hW => ⟨⟨(v, w1), v, rfl, h, rfl, by rw [ht]; exact hP, va_K.moved hW.alike hX.2.2.2.2.2.1, hD⟩, hS.F ht⟩) hS.2.2 hd B.notSynchronized
section ZR8
variable {p : Program} {l : Launch} {e : Env} {R : Room} {s : State} {m : MethodId} {args : Array Value} {below : List Frame} {meth : Method} {c : Code} {D : va_G} {A : Nat → Prop} {nL cells slots : Nat} {Q : State → Prop}
variable {cc : ByteArray} {own : String} {tys : List (ClassId × FieldType)} {pc : Nat} {lv : List (Nat × Value)} {st : List Value} {w : va_W}
theorem Z.callVfr (hX : Zf p m c cc nL s args own D tys A) {y : MethodName} {bytes : ByteArray} {maxL index : Nat} {ret : Option FieldType} {rm : Room} {As rest : List Value} {post : Nat → va_W → Prop} {C : String} {T : u_T} {N b : Nat} {fs : List Value} (ci qb : Nat) (hci : vwCl[ci]? = some (C, T, N)) (hqb : w[qb]? = some (b, .inr (ci, fs))) (hM : Ct l y bytes maxL ret rm 0 0 D tys (.ref b :: As) w (QR D tys post)) (hcode : Cond.code y bytes maxL ret ∈ lw_g) (hlk : Cond.methodLink own index y ∈ lw_g) (hins : Cond.instanceMethod y ∈ lw_g) (hsel : Cond.selects C y y ∈ lw_g) (hini : Cond.initialized y.cls ∈ lw_g) (hdd : y.cls ≠ "java/lang/invoke/MethodHandle" ∧ y.cls ≠ "java/lang/invoke/VarHandle" ∧ (parseMethodDescriptor y.desc).map (fun d => d.parameters.length) = some As.length) (hR : rm.frames + 1 ≤ R.frames ∧ 8 + (maxL + 11) + rm.locals ≤ R.locals) (hcs : rm.cells = 0 ∧ rm.slots = 0) (hroom : cells ≤ R.cells ∧ slots ≤ R.slots) (hstk : st = As.reverse ++ .ref b :: rest) (hcat : (rest.map fun v => v.category).sum ≤ 8) (hd : decode cc pc = .ok (.invokevirtual index, 3)) (k : ∀ (r : Nat) (w1 : va_W), post r w1 → Z p l e R s m args below meth c D A nL cells slots Q (pc + 3) lv (.ref r :: rest) w1) : Z p l e R s m args below meth c D A nL cells slots Q pc lv st w := by
  intro H locs ls hP hD hS hv
  obtain ⟨hx, hb, hml, hown, hts, hK, hA, hN⟩ := id hX
  have hC := z_rng w
  have hPc := hP
  have hDc := hD
  have hFc := va_free (wc := w) hD hS hA (List.range w.length) hC
  have hCB : CallB R s args own index y bytes maxL ret (.code y bytes maxL ret :: lw_g) rm 0 0 As.length := callB_of As.length hts (z_goodC hcode) rfl hcs.1 hcs.2 (hts _ hini) (hts _ hlk) hdd hR
  refine va_callr (va_runV (C := C) (b := b) (As := As) (rest := rest) ⟨hx, hb, hml, hown, hts⟩ (hM H.size) ⟨hCB, hts _ hins, hts _ hsel⟩ ⟨fun a U g mk q => by obtain ⟨q0, q1, qP, qK, qD, qN⟩ := q; exact ⟨q0, q1, qP, va_K.moved (u := U) (U := U.calling g mk a) (Vm.Alike.refl U.vm) qK, qD, NW.same qN rfl⟩, va_recv hK hPc (ci := ci) (q0 := qb) hci hqb, fun U hU hW => ⟨rfl, by rw [hU], by rw [hU]; exact hPc, va_K.moved hW.alike hK, hDc.weaken (fun _ _ _ _ => trivial), hN.warm hW⟩⟩ rfl rfl hv.1 hstk (lv_room hcat) hd hroom) hS (fun q _ h => hFc q h) hFc (fun u ra t H1 locs1 ht hvm hw hB hz1 hk1 hS1 => ?_)
  obtain ⟨rfl, hP1, hK1, hD1⟩ := hB
  rw [ht] at hP1
  exact k u.1 u.2 hw H1 locs1 ls hP1 (hD1.weaken (fun k q _ h => hFc q.1 h)) hS1 hv
theorem Z.iaddR (hX : Zf p m c cc nL s args own D tys A) {x y : Int32} (hd : decode cc pc = .ok (.iadd, 1)) (k : Z p l e R s m args below meth c D A nL cells slots Q (pc + 1) lv (.int (x + y) :: st) w) : Z p l e R s m args below meth c D A nL cells slots Q pc lv (.int y :: .int x :: st) w := fun H locs ls hP hD hS hv => lv_iadd hX.1 hX.2.1 hd (k H locs ls hP hD hS hv)
theorem Z.isubR (hX : Zf p m c cc nL s args own D tys A) {x y : Int32} (hd : decode cc pc = .ok (.isub, 1)) (k : Z p l e R s m args below meth c D A nL cells slots Q (pc + 1) lv (.int (x - y) :: st) w) : Z p l e R s m args below meth c D A nL cells slots Q pc lv (.int y :: .int x :: st) w := fun H locs ls hP hD hS hv => lv_isub hX.1 hX.2.1 hd (k H locs ls hP hD hS hv)
theorem Z.iushr (hX : Zf p m c cc nL s args own D tys A) {x y : Int32} (hd : decode cc pc = .ok (.iushr, 1)) (k : Z p l e R s m args below meth c D A nL cells slots Q (pc + 1) lv (.int ((x.toUInt32 >>> (y.toUInt32 &&& Int32.toUInt32 31)).toInt32) :: st) w) : Z p l e R s m args below meth c D A nL cells slots Q pc lv (.int y :: .int x :: st) w := fun H locs ls hP hD hS hv => lv_iushr hX.1 hX.2.1 hd rfl (k H locs ls hP hD hS hv)
theorem Z.ldcw (hX : Zf p m c cc nL s args own D tys A) {index : Nat} {v : Int32} (hd : decode cc pc = .ok (.ldc_w index, 3)) (hc : Cond.constant own index v ∈ lw_g) (k : Z p l e R s m args below meth c D A nL cells slots Q (pc + 3) lv (.int v :: st) w) : Z p l e R s m args below meth c D A nL cells slots Q pc lv st w := fun H locs ls hP hD hS hv => lv_ldcw hX.1 hX.2.1 hX.2.2.2.1 (hX.2.2.2.2.1 _ hc) hd (k H locs ls hP hD hS hv)
end ZR8
def us (x : Int32) (n : Int) : Int32 := (x.toUInt32 >>> ((zI n).toUInt32 &&& Int32.toUInt32 31)).toInt32
def bc1 (x : Int32) : Int32 := x - (us x 1 &&& 1431655765)
def bc2 (x : Int32) : Int32 := (x &&& 858993459) + (us x 2 &&& 858993459)
def bc3 (x : Int32) : Int32 := (x + us x 4) &&& 252645135
def bc4 (x : Int32) : Int32 := x + us x 8
def bc5 (x : Int32) : Int32 := x + us x 16
theorem bc16 : ∀ n : Fin 16, bc5 (bc4 (bc3 (bc2 (bc1 (zI (n.val : Int)))))) &&& zI 63 = zI (pc8 n.val : Int) := by decide +kernel
theorem bc_all {a : Int} (h : 0 ≤ a ∧ a < 16) {x1 x2 x3 x4 x5 : Int32} (e1 : x1 = bc1 (zI a)) (e2 : x2 = bc2 x1) (e3 : x3 = bc3 x2) (e4 : x4 = bc4 x3) (e5 : x5 = bc5 x4) : x5 &&& zI 63 = zI (pc8 a.toNat) := by
  obtain ⟨n, rfl⟩ := Int.eq_ofNat_of_zero_le h.1
  rw [e5, e4, e3, e2, e1]
  exact bc16 ⟨n, by omega⟩
theorem pc16 : ∀ n : Fin 16, pc8 n.val ≤ 4 ∧ (n.val ≠ 0 → 1 ≤ pc8 n.val) := by decide
theorem pc16b {a : Int} (h : 0 ≤ a ∧ a < 16) (h0 : ¬ a = 0) : (pc8 a.toNat : Int) ≤ 4 ∧ 1 ≤ (pc8 a.toNat : Int) := by
  obtain ⟨n, rfl⟩ := Int.eq_ofNat_of_zero_le h.1
  obtain ⟨h1, h2⟩ := pc16 ⟨n, by omega⟩
  have h3 := h2 (by simp only; omega)
  simp only at h1 h3
  show ((pc8 n : Nat) : Int) ≤ 4 ∧ 1 ≤ ((pc8 n : Nat) : Int)
  omega
theorem bit4_t : ∀ s : Fin 16, ∀ c : Fin 4, ((zI (s.val : Int) >>> (zI (c.val : Int) &&& 31)) &&& zI 1 = zI ((s.val / 2 ^ c.val % 2 : Nat) : Int)) ∧ (s.val / 2 ^ c.val % 2 = 1 → zI (s.val : Int) ^^^ (zI 1 <<< (zI (c.val : Int) &&& 31)) = zI ((s.val - 2 ^ c.val : Nat) : Int) ∧ 2 ^ c.val ≤ s.val) := by decide +kernel
theorem bitc4 {s c : Int} (h0 : 0 ≤ s) (h1 : s < 16) (g0 : 0 ≤ c) (g1 : c < 4) : ∃ b t : Int, (zI s >>> (zI c &&& 31)) &&& zI 1 = zI b ∧ (b = 0 ∨ b = 1) ∧ 0 ≤ t ∧ t < 16 ∧ (b = 1 → zI s ^^^ (zI 1 <<< (zI c &&& 31)) = zI t ∧ t < s) := by
  obtain ⟨n, rfl⟩ := Int.eq_ofNat_of_zero_le h0
  obtain ⟨k, rfl⟩ := Int.eq_ofNat_of_zero_le g0
  obtain ⟨e1, e2⟩ := bit4_t ⟨n, by omega⟩ ⟨k, by omega⟩
  simp only at e1 e2
  have := Nat.sub_le n (2 ^ k)
  refine ⟨((n / 2 ^ k % 2 : Nat) : Int), ((n - 2 ^ k : Nat) : Int), e1, by omega, by omega, by omega, fun hb => ?_⟩
  obtain ⟨e3, e4⟩ := e2 (by omega)
  have := Nat.two_pow_pos k
  exact ⟨e3, by omega⟩
theorem sh4 {n : Int} (h0 : 1 ≤ n) (h1 : n ≤ 4) : ∃ T : Int, zI 1 <<< (zI n &&& 31) = zI T ∧ 2 ≤ T ∧ T ≤ 16 := by
  have h : n = 1 ∨ n = 2 ∨ n = 3 ∨ n = 4 := by omega
  rcases h with rfl | rfl | rfl | rfl
  · exact ⟨2, by decide, by decide, by decide⟩
  · exact ⟨4, by decide, by decide, by decide⟩
  · exact ⟨8, by decide, by decide, by decide⟩
  · exact ⟨16, by decide, by decide, by decide⟩
