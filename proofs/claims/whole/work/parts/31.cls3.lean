section
/-! methods that answer a reference -/
abbrev QR (D : va_G) (tys : List (ClassId × FieldType)) (post : Nat → va_W → Prop) (A : Nat → Prop) := va_Qr (S := Nat × va_W) (fun u => post u.1 u.2) (fun u a t => a = u.1 ∧ Bw D tys A u.2 t) A
theorem Ct.ofR {l : Launch} {y : MethodName} {cc : ByteArray} {nL : Nat} {rm : Room} {mc ms : Nat} {D : va_G} {tys : List (ClassId × FieldType)} {avs : List Value} {w : va_W} {post : Nat → va_W → Prop} {rt : FieldType} (hy : plainName y.cls = true) (hlen : (lg_sl avs).length ≤ nL) (hrt : (∃ n, rt = .object n) ∨ ∃ t, rt = .array t)
    (body : ∀ (p : Program) (e : Env) (s : State) (m : MethodId) (args : Array Value) (below : List Frame) (meth : Method) (c : Code) (A : Nat → Prop) (Q : State → Prop), Zf p m c cc nL s args y.cls D tys A → meth.name = y.name → (∀ (pc : Nat) (lv : List (Nat × Value)) (v : Nat) (w1 : va_W), decode cc pc = .ok (.areturn, 1) → post v w1 → Z p l e rm s m args below meth c D A nL mc ms Q pc lv [.ref v] w1) → Z p l e rm s m args below meth c D A nL 0 0 Q 0 (lv_args 0 avs) [] w) : Ct l y cc nL (some rt) rm mc ms D tys avs w (QR D tys post) := by
  intro sz
  refine Met.ofW (cc := cc) (maxL := nL) (ret := some rt) hy rfl ?_
  intro p e s m args below meth c s₁ B hml hv
  obtain ⟨rfl, hsz, hP, hK, hD0, hN⟩ := hv
  subst hsz
  have hts := atoms_spec (ws := .code y cc nL (some rt) :: lw_g) B.pre
  have hX : Zf p m c cc nL s avs.toArray y.cls D tys (va_A w s.heap.size) := ⟨B.exec, B.bytes, hml, findClass_of_methodNamed B.named, fun x hx => hts x (List.mem_cons_of_mem _ hx), hK, fun q h => Or.inr h, hN⟩
  have hnm : meth.name = y.name := (name_of_methodNamed B.named B.method).1
  rw [lg_entry_eq]
  refine body p e s m avs.toArray below meth c (va_A w s.heap.size) _ hX hnm (fun pc lv v w1 hd h => ?_) s.heap [] _ hP hD0.self va_S.rf (lv_entry avs hlen)
  exact fun H locs ls hP hD hS hv => W.aret hX.1 hX.2.1 B.returns hrt (Or.inr ⟨v, rfl⟩) (fun t ht hW => ⟨⟨(v, w1), v, rfl, h, rfl, by rw [ht]; exact hP, va_K.moved hW.alike hX.2.2.2.2.2.1, hD⟩, hS.F ht⟩) hS.2.2 hd B.notSynchronized
section ZR8
variable {p : Program} {l : Launch} {e : Env} {R : Room} {s : State} {m : MethodId} {args : Array Value} {below : List Frame} {meth : Method} {c : Code} {D : va_G} {A : Nat → Prop} {nL cells slots : Nat} {Q : State → Prop}
variable {cc : ByteArray} {own : String} {tys : List (ClassId × FieldType)} {pc : Nat} {lv : List (Nat × Value)} {st : List Value} {w : va_W}
theorem Z.callVfr (hX : Zf p m c cc nL s args own D tys A) {y : MethodName} {bytes : ByteArray} {maxL index : Nat} {ret : Option FieldType} {rm : Room} {As rest : List Value} {post : Nat → va_W → Prop} {C : String} {T : u_T} {N b : Nat} {fs : List Value} (ci qb : Nat) (hci : vwCl[ci]? = some (C, T, N)) (hqb : w[qb]? = some (b, .inr (ci, fs))) (hM : Ct l y bytes maxL ret rm 0 0 D tys (.ref b :: As) w (QR D tys post)) (hcode : Cond.code y bytes maxL ret ∈ lw_g) (hlk : Cond.methodLink own index y ∈ lw_g) (hins : Cond.instanceMethod y ∈ lw_g) (hsel : Cond.selects C y y ∈ lw_g) (hini : Cond.initialized y.cls ∈ lw_g) (hdd : y.cls ≠ "java/lang/invoke/MethodHandle" ∧ y.cls ≠ "java/lang/invoke/VarHandle" ∧ (parseMethodDescriptor y.desc).map (fun d => d.parameters.length) = some As.length) (hR : rm.frames + 1 ≤ R.frames ∧ 8 + (maxL + 11) + rm.locals ≤ R.locals) (hcs : rm.cells = 0 ∧ rm.slots = 0) (hroom : cells ≤ R.cells ∧ slots ≤ R.slots) (hstk : st = As.reverse ++ .ref b :: rest) (hcat : (rest.map fun v => v.category).sum ≤ 8) (hd : decode cc pc = .ok (.invokevirtual index, 3)) (k : ∀ (r : Nat) (w1 : va_W), post r w1 → Z p l e R s m args below meth c D A nL cells slots Q (pc + 3) lv (.ref r :: rest) w1) : Z p l e R s m args below meth c D A nL cells slots Q pc lv st w := by
  intro H locs ls hP hD hS hv
  obtain ⟨hx, hb, hml, hown, hts, hK, hA, hN⟩ := id hX
  have hC := z_rng w
  have hPc := hP
  have hDc := hD
  have hFc := va_free (wc := w) hD hS hA (List.range w.length) hC
  have hCB : CallB R s args own index y bytes maxL ret (.code y bytes maxL ret :: lw_g) rm 0 0 As.length := callB_of As.length hts (z_goodC hcode) rfl hcs.1 hcs.2 (hts _ hini) (hts _ hlk) hdd hR
  refine va_callr (va_runV (C := C) (b := b) (As := As) (rest := rest) ⟨hx, hb, hml, hown, hts⟩ (hM H.size) ⟨hCB, hts _ hins, hts _ hsel⟩ ⟨fun a U g mk q => by obtain ⟨q0, q1, qP, qK, qD, qN⟩ := q; exact ⟨q0, q1, qP, va_K.moved (u := U) (U := U.calling g mk a) (Vm.Alike.refl U.vm) qK, qD, NW.same qN rfl⟩, va_recv hK hPc (ci := ci) (q0 := qb) hci hqb, fun U hU hW => ⟨rfl, by rw [hU], by rw [hU]; exact hPc, va_K.moved hW.alike hK, hDc.weaken (fun _ _ _ _ => trivial), hN.warm hW⟩⟩ rfl rfl hv.1 hstk (lv_room hcat) hd hroom) hS (fun q _ h => hFc q h) hFc (fun u ra t H1 locs1 ht hvm hw hB hz1 hk1 hS1 => ?_)
  obtain ⟨rfl, hP1, hK1, hD1⟩ := hB
  rw [ht] at hP1
  exact k u.1 u.2 hw H1 locs1 ls hP1 (hD1.weaken (fun k q _ h => hFc q.1 h)) hS1 hv
theorem Z.iaddR (hX : Zf p m c cc nL s args own D tys A) {x y : Int32} (hd : decode cc pc = .ok (.iadd, 1)) (k : Z p l e R s m args below meth c D A nL cells slots Q (pc + 1) lv (.int (x + y) :: st) w) : Z p l e R s m args below meth c D A nL cells slots Q pc lv (.int y :: .int x :: st) w := fun H locs ls hP hD hS hv => lv_iadd hX.1 hX.2.1 hd (k H locs ls hP hD hS hv)
theorem Z.isubR (hX : Zf p m c cc nL s args own D tys A) {x y : Int32} (hd : decode cc pc = .ok (.isub, 1)) (k : Z p l e R s m args below meth c D A nL cells slots Q (pc + 1) lv (.int (x - y) :: st) w) : Z p l e R s m args below meth c D A nL cells slots Q pc lv (.int y :: .int x :: st) w := fun H locs ls hP hD hS hv => lv_isub hX.1 hX.2.1 hd (k H locs ls hP hD hS hv)
theorem Z.iushr (hX : Zf p m c cc nL s args own D tys A) {x y : Int32} (hd : decode cc pc = .ok (.iushr, 1)) (k : Z p l e R s m args below meth c D A nL cells slots Q (pc + 1) lv (.int ((x.toUInt32 >>> (y.toUInt32 &&& Int32.toUInt32 31)).toInt32) :: st) w) : Z p l e R s m args below meth c D A nL cells slots Q pc lv (.int y :: .int x :: st) w := fun H locs ls hP hD hS hv => lv_iushr hX.1 hX.2.1 hd rfl (k H locs ls hP hD hS hv)
theorem Z.ldcw (hX : Zf p m c cc nL s args own D tys A) {index : Nat} {v : Int32} (hd : decode cc pc = .ok (.ldc_w index, 3)) (hc : Cond.constant own index v ∈ lw_g) (k : Z p l e R s m args below meth c D A nL cells slots Q (pc + 3) lv (.int v :: st) w) : Z p l e R s m args below meth c D A nL cells slots Q pc lv st w := fun H locs ls hP hD hS hv => lv_ldcw hX.1 hX.2.1 hX.2.2.2.1 (hX.2.2.2.2.1 _ hc) hd (k H locs ls hP hD hS hv)
end ZR8
def us (x : Int32) (n : Int) : Int32 := (x.toUInt32 >>> ((zI n).toUInt32 &&& Int32.toUInt32 31)).toInt32
def bc1 (x : Int32) : Int32 := x - (us x 1 &&& 1431655765)
def bc2 (x : Int32) : Int32 := (x &&& 858993459) + (us x 2 &&& 858993459)
def bc3 (x : Int32) : Int32 := (x + us x 4) &&& 252645135
def bc4 (x : Int32) : Int32 := x + us x 8
def bc5 (x : Int32) : Int32 := x + us x 16
theorem bc16 : ∀ n : Fin 16, bc5 (bc4 (bc3 (bc2 (bc1 (zI (n.val : Int)))))) &&& zI 63 = zI (pc8 n.val : Int) := by decide +kernel
theorem bc_all {a : Int} (h : 0 ≤ a ∧ a < 16) {x1 x2 x3 x4 x5 : Int32} (e1 : x1 = bc1 (zI a)) (e2 : x2 = bc2 x1) (e3 : x3 = bc3 x2) (e4 : x4 = bc4 x3) (e5 : x5 = bc5 x4) : x5 &&& zI 63 = zI (pc8 a.toNat) := by
  obtain ⟨n, rfl⟩ := Int.eq_ofNat_of_zero_le h.1
  rw [e5, e4, e3, e2, e1]
  exact bc16 ⟨n, by omega⟩
theorem pc16 : ∀ n : Fin 16, pc8 n.val ≤ 4 ∧ (n.val ≠ 0 → 1 ≤ pc8 n.val) := by decide
theorem pc16b {a : Int} (h : 0 ≤ a ∧ a < 16) (h0 : ¬ a = 0) : (pc8 a.toNat : Int) ≤ 4 ∧ 1 ≤ (pc8 a.toNat : Int) := by
  obtain ⟨n, rfl⟩ := Int.eq_ofNat_of_zero_le h.1
  obtain ⟨h1, h2⟩ := pc16 ⟨n, by omega⟩
  have h3 := h2 (by simp only; omega)
  simp only at h1 h3
  show ((pc8 n : Nat) : Int) ≤ 4 ∧ 1 ≤ ((pc8 n : Nat) : Int)
  omega
theorem bit4_t : ∀ s : Fin 16, ∀ c : Fin 4, ((zI (s.val : Int) >>> (zI (c.val : Int) &&& 31)) &&& zI 1 = zI ((s.val / 2 ^ c.val % 2 : Nat) : Int)) ∧ (s.val / 2 ^ c.val % 2 = 1 → zI (s.val : Int) ^^^ (zI 1 <<< (zI (c.val : Int) &&& 31)) = zI ((s.val - 2 ^ c.val : Nat) : Int) ∧ 2 ^ c.val ≤ s.val) := by decide +kernel
theorem bitc4 {s c : Int} (h0 : 0 ≤ s) (h1 : s < 16) (g0 : 0 ≤ c) (g1 : c < 4) : ∃ b t : Int, (zI s >>> (zI c &&& 31)) &&& zI 1 = zI b ∧ (b = 0 ∨ b = 1) ∧ 0 ≤ t ∧ t < 16 ∧ (b = 1 → zI s ^^^ (zI 1 <<< (zI c &&& 31)) = zI t ∧ t < s) := by
  obtain ⟨n, rfl⟩ := Int.eq_ofNat_of_zero_le h0
  obtain ⟨k, rfl⟩ := Int.eq_ofNat_of_zero_le g0
  obtain ⟨e1, e2⟩ := bit4_t ⟨n, by omega⟩ ⟨k, by omega⟩
  simp only at e1 e2
  have := Nat.sub_le n (2 ^ k)
  refine ⟨((n / 2 ^ k % 2 : Nat) : Int), ((n - 2 ^ k : Nat) : Int), e1, by omega, by omega, by omega, fun hb => ?_⟩
  obtain ⟨e3, e4⟩ := e2 (by omega)
  have := Nat.two_pow_pos k
  exact ⟨e3, by omega⟩
theorem sh4 {n : Int} (h0 : 1 ≤ n) (h1 : n ≤ 4) : ∃ T : Int, zI 1 <<< (zI n &&& 31) = zI T ∧ 2 ≤ T ∧ T ≤ 16 := by
  have h : n = 1 ∨ n = 2 ∨ n = 3 ∨ n = 4 := by omega
  rcases h with rfl | rfl | rfl | rfl
  · exact ⟨2, by decide, by decide, by decide⟩
  · exact ⟨4, by decide, by decide, by decide⟩
  · exact ⟨8, by decide, by decide, by decide⟩
  · exact ⟨16, by decide, by decide, by decide⟩
end
section
theorem dJ6_bitCount_0f7a4_0 : decode cJ6_bitCount_0f7a4 0 = .ok (.iload_n 0, 1) := by decide +kernel
theorem dJ6_bitCount_0f7a4_1 : decode cJ6_bitCount_0f7a4 1 = .ok (.iload_n 0, 1) := by decide +kernel
theorem dJ6_bitCount_0f7a4_2 : decode cJ6_bitCount_0f7a4 2 = .ok (.iconst 1, 1) := by decide +kernel
theorem dJ6_bitCount_0f7a4_3 : decode cJ6_bitCount_0f7a4 3 = .ok (.iushr, 1) := by decide +kernel
theorem dJ6_bitCount_0f7a4_4 : decode cJ6_bitCount_0f7a4 4 = .ok (.ldc_w 265, 3) := by decide +kernel
theorem dJ6_bitCount_0f7a4_7 : decode cJ6_bitCount_0f7a4 7 = .ok (.iand, 1) := by decide +kernel
theorem dJ6_bitCount_0f7a4_8 : decode cJ6_bitCount_0f7a4 8 = .ok (.isub, 1) := by decide +kernel
theorem dJ6_bitCount_0f7a4_9 : decode cJ6_bitCount_0f7a4 9 = .ok (.istore_n 0, 1) := by decide +kernel
theorem dJ6_bitCount_0f7a4_10 : decode cJ6_bitCount_0f7a4 10 = .ok (.iload_n 0, 1) := by decide +kernel
theorem dJ6_bitCount_0f7a4_11 : decode cJ6_bitCount_0f7a4 11 = .ok (.ldc_w 266, 3) := by decide +kernel
theorem dJ6_bitCount_0f7a4_14 : decode cJ6_bitCount_0f7a4 14 = .ok (.iand, 1) := by decide +kernel
theorem dJ6_bitCount_0f7a4_15 : decode cJ6_bitCount_0f7a4 15 = .ok (.iload_n 0, 1) := by decide +kernel
theorem dJ6_bitCount_0f7a4_16 : decode cJ6_bitCount_0f7a4 16 = .ok (.iconst 2, 1) := by decide +kernel
theorem dJ6_bitCount_0f7a4_17 : decode cJ6_bitCount_0f7a4 17 = .ok (.iushr, 1) := by decide +kernel
theorem dJ6_bitCount_0f7a4_18 : decode cJ6_bitCount_0f7a4 18 = .ok (.ldc_w 266, 3) := by decide +kernel
theorem dJ6_bitCount_0f7a4_21 : decode cJ6_bitCount_0f7a4 21 = .ok (.iand, 1) := by decide +kernel
theorem dJ6_bitCount_0f7a4_22 : decode cJ6_bitCount_0f7a4 22 = .ok (.iadd, 1) := by decide +kernel
theorem dJ6_bitCount_0f7a4_23 : decode cJ6_bitCount_0f7a4 23 = .ok (.istore_n 0, 1) := by decide +kernel
theorem dJ6_bitCount_0f7a4_24 : decode cJ6_bitCount_0f7a4 24 = .ok (.iload_n 0, 1) := by decide +kernel
theorem dJ6_bitCount_0f7a4_25 : decode cJ6_bitCount_0f7a4 25 = .ok (.iload_n 0, 1) := by decide +kernel
theorem dJ6_bitCount_0f7a4_26 : decode cJ6_bitCount_0f7a4 26 = .ok (.iconst 4, 1) := by decide +kernel
theorem dJ6_bitCount_0f7a4_27 : decode cJ6_bitCount_0f7a4 27 = .ok (.iushr, 1) := by decide +kernel
theorem dJ6_bitCount_0f7a4_28 : decode cJ6_bitCount_0f7a4 28 = .ok (.iadd, 1) := by decide +kernel
theorem dJ6_bitCount_0f7a4_29 : decode cJ6_bitCount_0f7a4 29 = .ok (.ldc_w 267, 3) := by decide +kernel
theorem dJ6_bitCount_0f7a4_32 : decode cJ6_bitCount_0f7a4 32 = .ok (.iand, 1) := by decide +kernel
theorem dJ6_bitCount_0f7a4_33 : decode cJ6_bitCount_0f7a4 33 = .ok (.istore_n 0, 1) := by decide +kernel
theorem dJ6_bitCount_0f7a4_34 : decode cJ6_bitCount_0f7a4 34 = .ok (.iload_n 0, 1) := by decide +kernel
theorem dJ6_bitCount_0f7a4_35 : decode cJ6_bitCount_0f7a4 35 = .ok (.iload_n 0, 1) := by decide +kernel
theorem dJ6_bitCount_0f7a4_36 : decode cJ6_bitCount_0f7a4 36 = .ok (.bipush 8, 2) := by decide +kernel
theorem dJ6_bitCount_0f7a4_38 : decode cJ6_bitCount_0f7a4 38 = .ok (.iushr, 1) := by decide +kernel
theorem dJ6_bitCount_0f7a4_39 : decode cJ6_bitCount_0f7a4 39 = .ok (.iadd, 1) := by decide +kernel
theorem dJ6_bitCount_0f7a4_40 : decode cJ6_bitCount_0f7a4 40 = .ok (.istore_n 0, 1) := by decide +kernel
theorem dJ6_bitCount_0f7a4_41 : decode cJ6_bitCount_0f7a4 41 = .ok (.iload_n 0, 1) := by decide +kernel
theorem dJ6_bitCount_0f7a4_42 : decode cJ6_bitCount_0f7a4 42 = .ok (.iload_n 0, 1) := by decide +kernel
theorem dJ6_bitCount_0f7a4_43 : decode cJ6_bitCount_0f7a4 43 = .ok (.bipush 16, 2) := by decide +kernel
theorem dJ6_bitCount_0f7a4_45 : decode cJ6_bitCount_0f7a4 45 = .ok (.iushr, 1) := by decide +kernel
theorem dJ6_bitCount_0f7a4_46 : decode cJ6_bitCount_0f7a4 46 = .ok (.iadd, 1) := by decide +kernel
theorem dJ6_bitCount_0f7a4_47 : decode cJ6_bitCount_0f7a4 47 = .ok (.istore_n 0, 1) := by decide +kernel
theorem dJ6_bitCount_0f7a4_48 : decode cJ6_bitCount_0f7a4 48 = .ok (.iload_n 0, 1) := by decide +kernel
theorem dJ6_bitCount_0f7a4_49 : decode cJ6_bitCount_0f7a4 49 = .ok (.bipush 63, 2) := by decide +kernel
theorem dJ6_bitCount_0f7a4_51 : decode cJ6_bitCount_0f7a4 51 = .ok (.iand, 1) := by decide +kernel
theorem dJ6_bitCount_0f7a4_52 : decode cJ6_bitCount_0f7a4 52 = .ok (.ireturn, 1) := by decide +kernel
set_option maxHeartbeats 4000000 in
set_option maxRecDepth 100000 in
theorem ct_J6_bitCount_0f7a4 (l : Launch) (D : va_G) (ce : Nat → ClassId) (a : Int) (ha : 0 ≤ a ∧ a < 16) : Ct l yJ6_bitCount_0f7a4 cJ6_bitCount_0f7a4 1 (some .int) { frames := 0, cells := 0, slots := 0, locals := 0 } 0 0 D (TY ce) [.int (zI a)] ([]) (QI D (TY ce) (fun r w1 => ∃ z : Int, r = zI z ∧ w1 = [] ∧ (z = pc8 a.toNat))) := by
  refine Ct.ofI (by decide) (Nat.le_of_ble_eq_true rfl) ?_
  intro p e s m args below meth c A Q hX hnm hR
  refine Z.pick (lv' := [(0, .int (zI a))]) [0] rfl ?_
  refine Z.iload_n hX dJ6_bitCount_0f7a4_0 rfl rfl ?_
  refine Z.iload_n hX dJ6_bitCount_0f7a4_1 rfl rfl ?_
  refine Z.iconst hX dJ6_bitCount_0f7a4_2 ?_
  refine Z.iushr hX dJ6_bitCount_0f7a4_3 ?_
  refine Z.ldcw hX dJ6_bitCount_0f7a4_4 co_J6_265 ?_
  refine Z.iand hX dJ6_bitCount_0f7a4_7 ?_
  refine Z.isubR hX dJ6_bitCount_0f7a4_8 ?_
  obtain ⟨x1, ex1⟩ : ∃ y : Int32, y = zI a - ((((zI a).toUInt32 >>> ((zI 1).toUInt32 &&& Int32.toUInt32 31)).toInt32) &&& 1431655765) := ⟨_, rfl⟩
  rw [← ex1]
  refine Z.istore_n (lv' := [(0, .int (x1))]) hX dJ6_bitCount_0f7a4_9 rfl (by decide) rfl ?_
  refine Z.iload_n hX dJ6_bitCount_0f7a4_10 rfl rfl ?_
  refine Z.ldcw hX dJ6_bitCount_0f7a4_11 co_J6_266 ?_
  refine Z.iand hX dJ6_bitCount_0f7a4_14 ?_
  refine Z.iload_n hX dJ6_bitCount_0f7a4_15 rfl rfl ?_
  refine Z.iconst hX dJ6_bitCount_0f7a4_16 ?_
  refine Z.iushr hX dJ6_bitCount_0f7a4_17 ?_
  refine Z.ldcw hX dJ6_bitCount_0f7a4_18 co_J6_266 ?_
  refine Z.iand hX dJ6_bitCount_0f7a4_21 ?_
  refine Z.iaddR hX dJ6_bitCount_0f7a4_22 ?_
  obtain ⟨x2, ex2⟩ : ∃ y : Int32, y = (x1 &&& 858993459) + (((x1.toUInt32 >>> ((zI 2).toUInt32 &&& Int32.toUInt32 31)).toInt32) &&& 858993459) := ⟨_, rfl⟩
  rw [← ex2]
  refine Z.istore_n (lv' := [(0, .int (x2))]) hX dJ6_bitCount_0f7a4_23 rfl (by decide) rfl ?_
  refine Z.iload_n hX dJ6_bitCount_0f7a4_24 rfl rfl ?_
  refine Z.iload_n hX dJ6_bitCount_0f7a4_25 rfl rfl ?_
  refine Z.iconst hX dJ6_bitCount_0f7a4_26 ?_
  refine Z.iushr hX dJ6_bitCount_0f7a4_27 ?_
  refine Z.iaddR hX dJ6_bitCount_0f7a4_28 ?_
  refine Z.ldcw hX dJ6_bitCount_0f7a4_29 co_J6_267 ?_
  refine Z.iand hX dJ6_bitCount_0f7a4_32 ?_
  obtain ⟨x3, ex3⟩ : ∃ y : Int32, y = (x2 + ((x2.toUInt32 >>> ((zI 4).toUInt32 &&& Int32.toUInt32 31)).toInt32)) &&& 252645135 := ⟨_, rfl⟩
  rw [← ex3]
  refine Z.istore_n (lv' := [(0, .int (x3))]) hX dJ6_bitCount_0f7a4_33 rfl (by decide) rfl ?_
  refine Z.iload_n hX dJ6_bitCount_0f7a4_34 rfl rfl ?_
  refine Z.iload_n hX dJ6_bitCount_0f7a4_35 rfl rfl ?_
  refine Z.bipush hX dJ6_bitCount_0f7a4_36 (by decide) ?_
  refine Z.iushr hX dJ6_bitCount_0f7a4_38 ?_
  refine Z.iaddR hX dJ6_bitCount_0f7a4_39 ?_
  obtain ⟨x4, ex4⟩ : ∃ y : Int32, y = x3 + ((x3.toUInt32 >>> ((zI 8).toUInt32 &&& Int32.toUInt32 31)).toInt32) := ⟨_, rfl⟩
  rw [← ex4]
  refine Z.istore_n (lv' := [(0, .int (x4))]) hX dJ6_bitCount_0f7a4_40 rfl (by decide) rfl ?_
  refine Z.iload_n hX dJ6_bitCount_0f7a4_41 rfl rfl ?_
  refine Z.iload_n hX dJ6_bitCount_0f7a4_42 rfl rfl ?_
  refine Z.bipush hX dJ6_bitCount_0f7a4_43 (by decide) ?_
  refine Z.iushr hX dJ6_bitCount_0f7a4_45 ?_
  refine Z.iaddR hX dJ6_bitCount_0f7a4_46 ?_
  obtain ⟨x5, ex5⟩ : ∃ y : Int32, y = x4 + ((x4.toUInt32 >>> ((zI 16).toUInt32 &&& Int32.toUInt32 31)).toInt32) := ⟨_, rfl⟩
  rw [← ex5]
  refine Z.istore_n (lv' := [(0, .int (x5))]) hX dJ6_bitCount_0f7a4_47 rfl (by decide) rfl ?_
  refine Z.iload_n hX dJ6_bitCount_0f7a4_48 rfl rfl ?_
  refine Z.bipush hX dJ6_bitCount_0f7a4_49 (by decide) ?_
  refine Z.iand hX dJ6_bitCount_0f7a4_51 ?_
  refine Z.vali (y := zI ((pc8 a.toNat : Int))) (bc_all ha ex1 ex2 ex3 ex4 ex5) ?_
  exact hR _ _ _ _ dJ6_bitCount_0f7a4_52 ⟨((pc8 a.toNat : Int)), rfl, rfl, rfl⟩

theorem dX2_setScaledLine_0 : decode cX2_setScaledLine 0 = .ok (.aload_n 0, 1) := by decide +kernel
theorem dX2_setScaledLine_1 : decode cX2_setScaledLine 1 = .ok (.lload_n 3, 1) := by decide +kernel
theorem dX2_setScaledLine_2 : decode cX2_setScaledLine 2 = .ok (.aload_n 1, 1) := by decide +kernel
theorem dX2_setScaledLine_3 : decode cX2_setScaledLine 3 = .ok (.getfield 37, 3) := by decide +kernel
theorem dX2_setScaledLine_6 : decode cX2_setScaledLine 6 = .ok (.iconst 0, 1) := by decide +kernel
theorem dX2_setScaledLine_7 : decode cX2_setScaledLine 7 = .ok (.aaload, 1) := by decide +kernel
theorem dX2_setScaledLine_8 : decode cX2_setScaledLine 8 = .ok (.iload_n 2, 1) := by decide +kernel
theorem dX2_setScaledLine_9 : decode cX2_setScaledLine 9 = .ok (.laload, 1) := by decide +kernel
theorem dX2_setScaledLine_10 : decode cX2_setScaledLine 10 = .ok (.lmul, 1) := by decide +kernel
theorem dX2_setScaledLine_11 : decode cX2_setScaledLine 11 = .ok (.lload_n 3, 1) := by decide +kernel
theorem dX2_setScaledLine_12 : decode cX2_setScaledLine 12 = .ok (.aload_n 1, 1) := by decide +kernel
theorem dX2_setScaledLine_13 : decode cX2_setScaledLine 13 = .ok (.getfield 37, 3) := by decide +kernel
theorem dX2_setScaledLine_16 : decode cX2_setScaledLine 16 = .ok (.iconst 1, 1) := by decide +kernel
theorem dX2_setScaledLine_17 : decode cX2_setScaledLine 17 = .ok (.aaload, 1) := by decide +kernel
theorem dX2_setScaledLine_18 : decode cX2_setScaledLine 18 = .ok (.iload_n 2, 1) := by decide +kernel
theorem dX2_setScaledLine_19 : decode cX2_setScaledLine 19 = .ok (.laload, 1) := by decide +kernel
theorem dX2_setScaledLine_20 : decode cX2_setScaledLine 20 = .ok (.lmul, 1) := by decide +kernel
theorem dX2_setScaledLine_21 : decode cX2_setScaledLine 21 = .ok (.lload_n 3, 1) := by decide +kernel
theorem dX2_setScaledLine_22 : decode cX2_setScaledLine 22 = .ok (.aload_n 1, 1) := by decide +kernel
theorem dX2_setScaledLine_23 : decode cX2_setScaledLine 23 = .ok (.getfield 37, 3) := by decide +kernel
theorem dX2_setScaledLine_26 : decode cX2_setScaledLine 26 = .ok (.iconst 2, 1) := by decide +kernel
theorem dX2_setScaledLine_27 : decode cX2_setScaledLine 27 = .ok (.aaload, 1) := by decide +kernel
theorem dX2_setScaledLine_28 : decode cX2_setScaledLine 28 = .ok (.iload_n 2, 1) := by decide +kernel
theorem dX2_setScaledLine_29 : decode cX2_setScaledLine 29 = .ok (.laload, 1) := by decide +kernel
theorem dX2_setScaledLine_30 : decode cX2_setScaledLine 30 = .ok (.lmul, 1) := by decide +kernel
theorem dX2_setScaledLine_31 : decode cX2_setScaledLine 31 = .ok (.invokevirtual 41, 3) := by decide +kernel
theorem dX2_setScaledLine_34 : decode cX2_setScaledLine 34 = .ok (.return_, 1) := by decide +kernel
set_option maxHeartbeats 4000000 in
set_option maxRecDepth 100000 in
theorem ct_X2_setScaledLine (l : Launch) (D : va_G) (ce : Nat → ClassId) (h pl ar : Nat → Nat) (G : Nat → Int) (L : Nat → Nat → Int64) (B : Nat → Int) (J : Nat → Nat → Int64) (k : Nat) (i : Int) (sc : Int64) (hB : BOK B) (hk : k < 42) (hi : 0 ≤ i ∧ i ≤ 4) : Ct l yX2_setScaledLine cX2_setScaledLine 5 none { frames := 3, cells := 0, slots := 0, locals := 70 } 0 0 D (TY ce) [.ref (pl k), .ref (h 1), .int (zI i), .long sc] (cW ce h pl ar G L B J) (QV D (TY ce) (fun w1 => ∃ B2 : Nat → Int, ∃ J2 : Nat → Nat → Int64, w1 = cW ce h pl ar G L B2 J2 ∧ (BOK B2))) := by
  refine Ct.ofV (by decide) (Nat.le_of_ble_eq_true rfl) ?_
  intro p e s m args below meth c A Q hX hnm hR
  refine Z.pick (lv' := [(0, .ref (pl k)), (1, .ref (h 1)), (2, .int (zI i)), (3, .long sc)]) [0, 1, 2, 3] rfl ?_
  refine Z.aload_n hX dX2_setScaledLine_0 rfl rfl ?_
  refine Z.lload_n hX dX2_setScaledLine_1 rfl rfl ?_
  refine Z.aload_n hX dX2_setScaledLine_2 rfl rfl ?_
  refine Z.getf hX 5 1 0 dX2_setScaledLine_3 rfl rfl inX5 (by decide) fl_X2_37 rfl rfl ?_
  refine Z.iconst hX dX2_setScaledLine_6 ?_
  refine Z.aaload hX 9 3 dX2_setScaledLine_7 rfl rfl rfl (by omega) (by omega) (by decide) rfl ?_
  refine Z.iload_n hX dX2_setScaledLine_8 rfl rfl ?_
  refine Z.laload hX (18 + 0) 1 dX2_setScaledLine_9 (cW_in (by decide)) rfl (by omega) (by omega) (by decide) ?_
  refine Z.lmul hX dX2_setScaledLine_10 ?_
  refine Z.lload_n hX dX2_setScaledLine_11 rfl rfl ?_
  refine Z.aload_n hX dX2_setScaledLine_12 rfl rfl ?_
  refine Z.getf hX 5 1 0 dX2_setScaledLine_13 rfl rfl inX5 (by decide) fl_X2_37 rfl rfl ?_
  refine Z.iconst hX dX2_setScaledLine_16 ?_
  refine Z.aaload hX 9 3 dX2_setScaledLine_17 rfl rfl rfl (by omega) (by omega) (by decide) rfl ?_
  refine Z.iload_n hX dX2_setScaledLine_18 rfl rfl ?_
  refine Z.laload hX (18 + 1) 1 dX2_setScaledLine_19 (cW_in (by decide)) rfl (by omega) (by omega) (by decide) ?_
  refine Z.lmul hX dX2_setScaledLine_20 ?_
  refine Z.lload_n hX dX2_setScaledLine_21 rfl rfl ?_
  refine Z.aload_n hX dX2_setScaledLine_22 rfl rfl ?_
  refine Z.getf hX 5 1 0 dX2_setScaledLine_23 rfl rfl inX5 (by decide) fl_X2_37 rfl rfl ?_
  refine Z.iconst hX dX2_setScaledLine_26 ?_
  refine Z.aaload hX 9 3 dX2_setScaledLine_27 rfl rfl rfl (by omega) (by omega) (by decide) rfl ?_
  refine Z.iload_n hX dX2_setScaledLine_28 rfl rfl ?_
  refine Z.laload hX (18 + 2) 1 dX2_setScaledLine_29 (cW_in (by decide)) rfl (by omega) (by omega) (by decide) ?_
  refine Z.lmul hX dX2_setScaledLine_30 ?_
  refine Z.callVfv (As := [.long (sc * (L 0 (i : Int).toNat)), .long (sc * (L 1 (i : Int).toNat)), .long (sc * (L 2 (i : Int).toNat))]) (rest := []) hX 3 (24 + k) rfl (cW_pl (by omega)) (ct_X3_setLine l D ce h pl ar G L B J k (sc * (L 0 (i : Int).toNat)) (sc * (L 1 (i : Int).toNat)) (sc * (L 2 (i : Int).toNat)) hk hB) mc_X3_setLine ml_X2_41 im_X3_setLine se_X3_setLine ini_X3 nd_X3_setLine ⟨Nat.le_of_ble_eq_true rfl, Nat.le_of_ble_eq_true rfl⟩ ⟨rfl, rfl⟩ ⟨Nat.le_refl _, Nat.le_refl _⟩ rfl (Nat.le_of_ble_eq_true rfl) dX2_setScaledLine_31 ?_
  rintro w1 ⟨B22, J23, hw_, hs1, hs2, hs3, hs4⟩
  subst hw_
  exact hR _ _ _ dX2_setScaledLine_34 ⟨B22, J23, rfl, hs3⟩

theorem dX2_takeMover_0 : decode cX2_takeMover 0 = .ok (.aload_n 1, 1) := by decide +kernel
theorem dX2_takeMover_1 : decode cX2_takeMover 1 = .ok (.iconst 2, 1) := by decide +kernel
theorem dX2_takeMover_2 : decode cX2_takeMover 2 = .ok (.invokevirtual 27, 3) := by decide +kernel
theorem dX2_takeMover_5 : decode cX2_takeMover 5 = .ok (.ifCond .eq 7, 3) := by decide +kernel
theorem dX2_takeMover_8 : decode cX2_takeMover 8 = .ok (.iconst 0, 1) := by decide +kernel
theorem dX2_takeMover_9 : decode cX2_takeMover 9 = .ok (.goto 7, 3) := by decide +kernel
theorem dX2_takeMover_12 : decode cX2_takeMover 12 = .ok (.aload_n 1, 1) := by decide +kernel
theorem dX2_takeMover_13 : decode cX2_takeMover 13 = .ok (.invokevirtual 33, 3) := by decide +kernel
theorem dX2_takeMover_16 : decode cX2_takeMover 16 = .ok (.istore_n 2, 1) := by decide +kernel
theorem dX2_takeMover_17 : decode cX2_takeMover 17 = .ok (.iconst 0, 1) := by decide +kernel
theorem dX2_takeMover_18 : decode cX2_takeMover 18 = .ok (.istore_n 3, 1) := by decide +kernel
theorem dX2_takeMover_19 : decode cX2_takeMover 19 = .ok (.iload_n 3, 1) := by decide +kernel
theorem dX2_takeMover_20 : decode cX2_takeMover 20 = .ok (.iload_n 2, 1) := by decide +kernel
theorem dX2_takeMover_21 : decode cX2_takeMover 21 = .ok (.if_icmp .gt 63, 3) := by decide +kernel
theorem dX2_takeMover_24 : decode cX2_takeMover 24 = .ok (.aload_n 0, 1) := by decide +kernel
theorem dX2_takeMover_25 : decode cX2_takeMover 25 = .ok (.getfield 11, 3) := by decide +kernel
theorem dX2_takeMover_28 : decode cX2_takeMover 28 = .ok (.iload_n 3, 1) := by decide +kernel
theorem dX2_takeMover_29 : decode cX2_takeMover 29 = .ok (.aaload, 1) := by decide +kernel
theorem dX2_takeMover_30 : decode cX2_takeMover 30 = .ok (.aload_n 1, 1) := by decide +kernel
theorem dX2_takeMover_31 : decode cX2_takeMover 31 = .ok (.getfield 37, 3) := by decide +kernel
theorem dX2_takeMover_34 : decode cX2_takeMover 34 = .ok (.iconst 2, 1) := by decide +kernel
theorem dX2_takeMover_35 : decode cX2_takeMover 35 = .ok (.aaload, 1) := by decide +kernel
theorem dX2_takeMover_36 : decode cX2_takeMover 36 = .ok (.iload_n 3, 1) := by decide +kernel
theorem dX2_takeMover_37 : decode cX2_takeMover 37 = .ok (.laload, 1) := by decide +kernel
theorem dX2_takeMover_38 : decode cX2_takeMover 38 = .ok (.lneg, 1) := by decide +kernel
theorem dX2_takeMover_39 : decode cX2_takeMover 39 = .ok (.lconst 0, 1) := by decide +kernel
theorem dX2_takeMover_40 : decode cX2_takeMover 40 = .ok (.aload_n 1, 1) := by decide +kernel
theorem dX2_takeMover_41 : decode cX2_takeMover 41 = .ok (.getfield 37, 3) := by decide +kernel
theorem dX2_takeMover_44 : decode cX2_takeMover 44 = .ok (.iconst 0, 1) := by decide +kernel
theorem dX2_takeMover_45 : decode cX2_takeMover 45 = .ok (.aaload, 1) := by decide +kernel
theorem dX2_takeMover_46 : decode cX2_takeMover 46 = .ok (.iload_n 3, 1) := by decide +kernel
theorem dX2_takeMover_47 : decode cX2_takeMover 47 = .ok (.laload, 1) := by decide +kernel
theorem dX2_takeMover_48 : decode cX2_takeMover 48 = .ok (.invokevirtual 41, 3) := by decide +kernel
theorem dX2_takeMover_51 : decode cX2_takeMover 51 = .ok (.aload_n 0, 1) := by decide +kernel
theorem dX2_takeMover_52 : decode cX2_takeMover 52 = .ok (.getfield 17, 3) := by decide +kernel
theorem dX2_takeMover_55 : decode cX2_takeMover 55 = .ok (.iload_n 3, 1) := by decide +kernel
theorem dX2_takeMover_56 : decode cX2_takeMover 56 = .ok (.aaload, 1) := by decide +kernel
theorem dX2_takeMover_57 : decode cX2_takeMover 57 = .ok (.lconst 0, 1) := by decide +kernel
theorem dX2_takeMover_58 : decode cX2_takeMover 58 = .ok (.aload_n 1, 1) := by decide +kernel
theorem dX2_takeMover_59 : decode cX2_takeMover 59 = .ok (.getfield 37, 3) := by decide +kernel
theorem dX2_takeMover_62 : decode cX2_takeMover 62 = .ok (.iconst 2, 1) := by decide +kernel
theorem dX2_takeMover_63 : decode cX2_takeMover 63 = .ok (.aaload, 1) := by decide +kernel
theorem dX2_takeMover_64 : decode cX2_takeMover 64 = .ok (.iload_n 3, 1) := by decide +kernel
theorem dX2_takeMover_65 : decode cX2_takeMover 65 = .ok (.laload, 1) := by decide +kernel
theorem dX2_takeMover_66 : decode cX2_takeMover 66 = .ok (.lneg, 1) := by decide +kernel
theorem dX2_takeMover_67 : decode cX2_takeMover 67 = .ok (.aload_n 1, 1) := by decide +kernel
theorem dX2_takeMover_68 : decode cX2_takeMover 68 = .ok (.getfield 37, 3) := by decide +kernel
theorem dX2_takeMover_71 : decode cX2_takeMover 71 = .ok (.iconst 1, 1) := by decide +kernel
theorem dX2_takeMover_72 : decode cX2_takeMover 72 = .ok (.aaload, 1) := by decide +kernel
theorem dX2_takeMover_73 : decode cX2_takeMover 73 = .ok (.iload_n 3, 1) := by decide +kernel
theorem dX2_takeMover_74 : decode cX2_takeMover 74 = .ok (.laload, 1) := by decide +kernel
theorem dX2_takeMover_75 : decode cX2_takeMover 75 = .ok (.invokevirtual 41, 3) := by decide +kernel
theorem dX2_takeMover_78 : decode cX2_takeMover 78 = .ok (.iinc 3 1, 3) := by decide +kernel
theorem dX2_takeMover_81 : decode cX2_takeMover 81 = .ok (.goto (-62), 3) := by decide +kernel
theorem dX2_takeMover_84 : decode cX2_takeMover 84 = .ok (.iload_n 2, 1) := by decide +kernel
theorem dX2_takeMover_85 : decode cX2_takeMover 85 = .ok (.ireturn, 1) := by decide +kernel
set_option maxHeartbeats 4000000 in
set_option maxRecDepth 100000 in
theorem ct_X2_takeMover (l : Launch) (D : va_G) (ce : Nat → ClassId) (h pl ar : Nat → Nat) (G : Nat → Int) (L : Nat → Nat → Int64) (B : Nat → Int) (J : Nat → Nat → Int64) (hB : BOK B) : Ct l yX2_takeMover cX2_takeMover 4 (some .int) { frames := 3, cells := 0, slots := 0, locals := 70 } 0 0 D (TY ce) [.ref (h 4), .ref (h 2)] (cW ce h pl ar G L B J) (QI D (TY ce) (fun r w1 => ∃ z : Int, ∃ B2 : Nat → Int, ∃ J2 : Nat → Nat → Int64, r = zI z ∧ w1 = cW ce h pl ar G L B2 J2 ∧ (BOK B2) ∧ (0 ≤ z ∧ z ≤ 4))) := by
  refine Ct.ofI (by decide) (Nat.le_of_ble_eq_true rfl) ?_
  intro p e s m args below meth c A Q hX hnm hR
  refine Z.pick (lv' := [(0, .ref (h 4)), (1, .ref (h 2))]) [0, 1] rfl ?_
  have key_16 : ∀ (tp : Int), (ht : 0 ≤ tp ∧ tp ≤ 4) → Z p l e { frames := 3, cells := 0, slots := 0, locals := 70 } s m args below meth c D A 4 0 0 Q 16 [(1, .ref (h 2)), (0, .ref (h 4))] [.int (zI tp)] (cW ce h pl ar G L B J) := by
    intro tp ht
    refine Z.istore_n (lv' := [(2, .int (zI tp)), (1, .ref (h 2)), (0, .ref (h 4))]) hX dX2_takeMover_16 rfl (by decide) rfl ?_
    refine Z.iconst hX dX2_takeMover_17 ?_
    refine Z.istore_n (lv' := [(3, .int (zI 0)), (2, .int (zI tp)), (1, .ref (h 2)), (0, .ref (h 4))]) hX dX2_takeMover_18 rfl (by decide) rfl ?_
    have key_19 : ∀ (N : Nat), ∀ (i : Int) (BB : Nat → Int) (MM : Nat → Nat → Int64), (tp + 1 - i).toNat < N → (hi : 0 ≤ i ∧ i ≤ tp + 1) → (hM : BOK BB) → Z p l e { frames := 3, cells := 0, slots := 0, locals := 70 } s m args below meth c D A 4 0 0 Q 19 [(3, .int (zI i)), (2, .int (zI tp)), (1, .ref (h 2)), (0, .ref (h 4))] [] (cW ce h pl ar G L BB MM) := by
      intro N
      induction N with
      | zero => intro i BB MM hm; exact absurd hm (Nat.not_lt_zero _)
      | succ N ih_19 =>
        intro i BB MM hm hi hM
        refine Z.iload_n hX dX2_takeMover_19 rfl rfl ?_
        refine Z.iload_n hX dX2_takeMover_20 rfl rfl ?_
        refine Z.icmp_gt hX 84 dX2_takeMover_21 (by decide) ⟨by omega, by omega⟩ ⟨by omega, by omega⟩ ?_ ?_
        · intro c1
          refine Z.iload_n hX dX2_takeMover_84 rfl rfl ?_
          exact hR _ _ _ _ dX2_takeMover_85 ⟨tp, BB, MM, rfl, rfl, hM, (by omega)⟩
        · intro c1
          refine Z.aload_n hX dX2_takeMover_24 rfl rfl ?_
          refine Z.getf hX 2 4 0 dX2_takeMover_25 rfl rfl inX2 (by decide) fl_X2_11 rfl rfl ?_
          refine Z.iload_n hX dX2_takeMover_28 rfl rfl ?_
          refine Z.aaload hX 14 4 dX2_takeMover_29 rfl rfl rfl (by omega) (by omega) (by decide) rfl ?_
          refine Z.aload_n hX dX2_takeMover_30 rfl rfl ?_
          refine Z.getf hX 5 2 0 dX2_takeMover_31 rfl rfl inX5 (by decide) fl_X2_37 rfl rfl ?_
          refine Z.iconst hX dX2_takeMover_34 ?_
          refine Z.aaload hX 10 3 dX2_takeMover_35 rfl rfl rfl (by omega) (by omega) (by decide) rfl ?_
          refine Z.iload_n hX dX2_takeMover_36 rfl rfl ?_
          refine Z.laload hX (18 + (3 + 2)) 1 dX2_takeMover_37 (cW_in (by omega)) rfl (by omega) (by omega) (by decide) ?_
          refine Z.lneg hX dX2_takeMover_38 ?_
          refine Z.lconst (v := 0) hX dX2_takeMover_39 rfl ?_
          refine Z.aload_n hX dX2_takeMover_40 rfl rfl ?_
          refine Z.getf hX 5 2 0 dX2_takeMover_41 rfl rfl inX5 (by decide) fl_X2_37 rfl rfl ?_
          refine Z.iconst hX dX2_takeMover_44 ?_
          refine Z.aaload hX 10 3 dX2_takeMover_45 rfl rfl rfl (by omega) (by omega) (by decide) rfl ?_
          refine Z.iload_n hX dX2_takeMover_46 rfl rfl ?_
          refine Z.laload hX (18 + (3 + 0)) 1 dX2_takeMover_47 (cW_in (by omega)) rfl (by omega) (by omega) (by decide) ?_
          refine Z.callVfv (As := [.long (-(L ((3 + 2)) (i : Int).toNat)), .long 0, .long (L ((3 + 0)) (i : Int).toNat)]) (rest := []) hX 3 (24 + (i : Int).toNat) rfl (cW_pl (by omega)) (ct_X3_setLine l D ce h pl ar G L BB MM ((i : Int).toNat) (-(L ((3 + 2)) (i : Int).toNat)) 0 (L ((3 + 0)) (i : Int).toNat) (by omega) hM) mc_X3_setLine ml_X2_41 im_X3_setLine se_X3_setLine ini_X3 nd_X3_setLine ⟨Nat.le_of_ble_eq_true rfl, Nat.le_of_ble_eq_true rfl⟩ ⟨rfl, rfl⟩ ⟨Nat.le_refl _, Nat.le_refl _⟩ rfl (Nat.le_of_ble_eq_true rfl) dX2_takeMover_48 ?_
          rintro w1 ⟨B23, J24, hw_, hs1, hs2, hs3, hs4⟩
          subst hw_
          refine Z.aload_n hX dX2_takeMover_51 rfl rfl ?_
          refine Z.getf hX 2 4 1 dX2_takeMover_52 rfl rfl inX2 (by decide) fl_X2_17 rfl rfl ?_
          refine Z.iload_n hX dX2_takeMover_55 rfl rfl ?_
          refine Z.aaload hX 15 4 dX2_takeMover_56 rfl rfl rfl (by omega) (by omega) (by decide) rfl ?_
          refine Z.lconst (v := 0) hX dX2_takeMover_57 rfl ?_
          refine Z.aload_n hX dX2_takeMover_58 rfl rfl ?_
          refine Z.getf hX 5 2 0 dX2_takeMover_59 rfl rfl inX5 (by decide) fl_X2_37 rfl rfl ?_
          refine Z.iconst hX dX2_takeMover_62 ?_
          refine Z.aaload hX 10 3 dX2_takeMover_63 rfl rfl rfl (by omega) (by omega) (by decide) rfl ?_
          refine Z.iload_n hX dX2_takeMover_64 rfl rfl ?_
          refine Z.laload hX (18 + (3 + 2)) 1 dX2_takeMover_65 (cW_in (by omega)) rfl (by omega) (by omega) (by decide) ?_
          refine Z.lneg hX dX2_takeMover_66 ?_
          refine Z.aload_n hX dX2_takeMover_67 rfl rfl ?_
          refine Z.getf hX 5 2 0 dX2_takeMover_68 rfl rfl inX5 (by decide) fl_X2_37 rfl rfl ?_
          refine Z.iconst hX dX2_takeMover_71 ?_
          refine Z.aaload hX 10 3 dX2_takeMover_72 rfl rfl rfl (by omega) (by omega) (by decide) rfl ?_
          refine Z.iload_n hX dX2_takeMover_73 rfl rfl ?_
          refine Z.laload hX (18 + (3 + 1)) 1 dX2_takeMover_74 (cW_in (by omega)) rfl (by omega) (by omega) (by decide) ?_
          refine Z.callVfv (As := [.long 0, .long (-(L ((3 + 2)) (i : Int).toNat)), .long (L ((3 + 1)) (i : Int).toNat)]) (rest := []) hX 3 (24 + (5 + (i : Int).toNat)) rfl (cW_pl (by omega)) (ct_X3_setLine l D ce h pl ar G L B23 J24 ((5 + (i : Int).toNat)) 0 (-(L ((3 + 2)) (i : Int).toNat)) (L ((3 + 1)) (i : Int).toNat) (by omega) hs3) mc_X3_setLine ml_X2_41 im_X3_setLine se_X3_setLine ini_X3 nd_X3_setLine ⟨Nat.le_of_ble_eq_true rfl, Nat.le_of_ble_eq_true rfl⟩ ⟨rfl, rfl⟩ ⟨Nat.le_refl _, Nat.le_refl _⟩ rfl (Nat.le_of_ble_eq_true rfl) dX2_takeMover_75 ?_
          rintro w1 ⟨B26, J27, hw_, ht1, ht2, ht3, ht4⟩
          subst hw_
          refine Z.iinc (lv' := [(3, .int (zI (i + 1))), (2, .int (zI tp)), (1, .ref (h 2)), (0, .ref (h 4))]) hX dX2_takeMover_78 rfl (by decide) rfl ?_
          refine Z.goto hX 19 dX2_takeMover_81 (by decide) ?_
          refine Z.pick [0, 1, 2, 3] rfl ?_
          exact ih_19 _ _ _ (by omega) (by omega) ht3
    refine Z.pick [0, 1, 2, 3] rfl ?_
    exact key_19 _ _ _ _ (Nat.lt_succ_self _) (by omega) hB
  refine Z.aload_n hX dX2_takeMover_0 rfl rfl ?_
  refine Z.iconst hX dX2_takeMover_1 ?_
  refine Z.callVfi (As := [.int (zI 2)]) (rest := []) hX 5 2 rfl rfl (ct_X5_isZero_f l D ce h pl ar G L B J 2 (by omega)) mc_X5_isZero ml_X2_27 im_X5_isZero se_X5_isZero ini_X5 nd_X5_isZero ⟨Nat.le_of_ble_eq_true rfl, Nat.le_of_ble_eq_true rfl⟩ ⟨rfl, rfl⟩ ⟨Nat.le_refl _, Nat.le_refl _⟩ rfl (Nat.le_of_ble_eq_true rfl) dX2_takeMover_2 ?_
  rintro r_8 w1 ⟨z9, hr_, hw_, hq10⟩
  subst hr_
  subst hw_
  refine Z.if_eq hX 12 dX2_takeMover_5 (by decide) ⟨by omega, by omega⟩ ?_ ?_
  · intro c11
    refine Z.aload_n hX dX2_takeMover_12 rfl rfl ?_
    refine Z.callVfi (As := []) (rest := []) hX 5 2 rfl rfl (ct_X5_highestPower_f l D ce h pl ar G L B J ) mc_X5_highestPower ml_X2_33 im_X5_highestPower se_X5_highestPower ini_X5 nd_X5_highestPower ⟨Nat.le_of_ble_eq_true rfl, Nat.le_of_ble_eq_true rfl⟩ ⟨rfl, rfl⟩ ⟨Nat.le_refl _, Nat.le_refl _⟩ rfl (Nat.le_of_ble_eq_true rfl) dX2_takeMover_13 ?_
    rintro r_12 w1 ⟨z13, hr_, hw_, hq14, hq15, hq16⟩
    subst hr_
    subst hw_
    refine Z.pick [1, 0] rfl ?_
    exact key_16 _ (by omega)
  · intro c11
    refine Z.iconst hX dX2_takeMover_8 ?_
    refine Z.goto hX 16 dX2_takeMover_9 (by decide) ?_
    refine Z.pick [1, 0] rfl ?_
    exact key_16 _ (by omega)

theorem dX2_takeLines_0 : decode cX2_takeLines 0 = .ok (.aload_n 1, 1) := by decide +kernel
theorem dX2_takeLines_1 : decode cX2_takeLines 1 = .ok (.invokevirtual 33, 3) := by decide +kernel
theorem dX2_takeLines_4 : decode cX2_takeLines 4 = .ok (.istore_n 2, 1) := by decide +kernel
theorem dX2_takeLines_5 : decode cX2_takeLines 5 = .ok (.iconst 0, 1) := by decide +kernel
theorem dX2_takeLines_6 : decode cX2_takeLines 6 = .ok (.istore_n 3, 1) := by decide +kernel
theorem dX2_takeLines_7 : decode cX2_takeLines 7 = .ok (.iload_n 3, 1) := by decide +kernel
theorem dX2_takeLines_8 : decode cX2_takeLines 8 = .ok (.iload_n 2, 1) := by decide +kernel
theorem dX2_takeLines_9 : decode cX2_takeLines 9 = .ok (.if_icmp .ge 41, 3) := by decide +kernel
theorem dX2_takeLines_12 : decode cX2_takeLines 12 = .ok (.aload_n 0, 1) := by decide +kernel
theorem dX2_takeLines_13 : decode cX2_takeLines 13 = .ok (.getfield 11, 3) := by decide +kernel
theorem dX2_takeLines_16 : decode cX2_takeLines 16 = .ok (.iload_n 3, 1) := by decide +kernel
theorem dX2_takeLines_17 : decode cX2_takeLines 17 = .ok (.aaload, 1) := by decide +kernel
theorem dX2_takeLines_18 : decode cX2_takeLines 18 = .ok (.aload_n 1, 1) := by decide +kernel
theorem dX2_takeLines_19 : decode cX2_takeLines 19 = .ok (.iload_n 3, 1) := by decide +kernel
theorem dX2_takeLines_20 : decode cX2_takeLines 20 = .ok (.iconst 1, 1) := by decide +kernel
theorem dX2_takeLines_21 : decode cX2_takeLines 21 = .ok (.iadd, 1) := by decide +kernel
theorem dX2_takeLines_22 : decode cX2_takeLines 22 = .ok (.iload_n 3, 1) := by decide +kernel
theorem dX2_takeLines_23 : decode cX2_takeLines 23 = .ok (.iconst 1, 1) := by decide +kernel
theorem dX2_takeLines_24 : decode cX2_takeLines 24 = .ok (.iadd, 1) := by decide +kernel
theorem dX2_takeLines_25 : decode cX2_takeLines 25 = .ok (.i2l, 1) := by decide +kernel
theorem dX2_takeLines_26 : decode cX2_takeLines 26 = .ok (.invokestatic 45, 3) := by decide +kernel
theorem dX2_takeLines_29 : decode cX2_takeLines 29 = .ok (.aload_n 0, 1) := by decide +kernel
theorem dX2_takeLines_30 : decode cX2_takeLines 30 = .ok (.getfield 17, 3) := by decide +kernel
theorem dX2_takeLines_33 : decode cX2_takeLines 33 = .ok (.iload_n 3, 1) := by decide +kernel
theorem dX2_takeLines_34 : decode cX2_takeLines 34 = .ok (.aaload, 1) := by decide +kernel
theorem dX2_takeLines_35 : decode cX2_takeLines 35 = .ok (.aload_n 1, 1) := by decide +kernel
theorem dX2_takeLines_36 : decode cX2_takeLines 36 = .ok (.iload_n 3, 1) := by decide +kernel
theorem dX2_takeLines_37 : decode cX2_takeLines 37 = .ok (.iload_n 2, 1) := by decide +kernel
theorem dX2_takeLines_38 : decode cX2_takeLines 38 = .ok (.iload_n 3, 1) := by decide +kernel
theorem dX2_takeLines_39 : decode cX2_takeLines 39 = .ok (.isub, 1) := by decide +kernel
theorem dX2_takeLines_40 : decode cX2_takeLines 40 = .ok (.i2l, 1) := by decide +kernel
theorem dX2_takeLines_41 : decode cX2_takeLines 41 = .ok (.invokestatic 45, 3) := by decide +kernel
theorem dX2_takeLines_44 : decode cX2_takeLines 44 = .ok (.iinc 3 1, 3) := by decide +kernel
theorem dX2_takeLines_47 : decode cX2_takeLines 47 = .ok (.goto (-40), 3) := by decide +kernel
theorem dX2_takeLines_50 : decode cX2_takeLines 50 = .ok (.iload_n 2, 1) := by decide +kernel
theorem dX2_takeLines_51 : decode cX2_takeLines 51 = .ok (.iconst 2, 1) := by decide +kernel
theorem dX2_takeLines_52 : decode cX2_takeLines 52 = .ok (.if_icmp .ge 7, 3) := by decide +kernel
theorem dX2_takeLines_55 : decode cX2_takeLines 55 = .ok (.iconst 0, 1) := by decide +kernel
theorem dX2_takeLines_56 : decode cX2_takeLines 56 = .ok (.goto 6, 3) := by decide +kernel
theorem dX2_takeLines_59 : decode cX2_takeLines 59 = .ok (.iload_n 2, 1) := by decide +kernel
theorem dX2_takeLines_60 : decode cX2_takeLines 60 = .ok (.iconst 1, 1) := by decide +kernel
theorem dX2_takeLines_61 : decode cX2_takeLines 61 = .ok (.isub, 1) := by decide +kernel
theorem dX2_takeLines_62 : decode cX2_takeLines 62 = .ok (.ireturn, 1) := by decide +kernel
set_option maxHeartbeats 4000000 in
set_option maxRecDepth 100000 in
theorem ct_X2_takeLines (l : Launch) (D : va_G) (ce : Nat → ClassId) (h pl ar : Nat → Nat) (G : Nat → Int) (L : Nat → Nat → Int64) (B : Nat → Int) (J : Nat → Nat → Int64) (hB : BOK B) : Ct l yX2_takeLines cX2_takeLines 4 (some .int) { frames := 4, cells := 0, slots := 0, locals := 94 } 0 0 D (TY ce) [.ref (h 4), .ref (h 1)] (cW ce h pl ar G L B J) (QI D (TY ce) (fun r w1 => ∃ z : Int, ∃ B2 : Nat → Int, ∃ J2 : Nat → Nat → Int64, r = zI z ∧ w1 = cW ce h pl ar G L B2 J2 ∧ (BOK B2) ∧ (0 ≤ z ∧ z ≤ 3))) := by
  refine Ct.ofI (by decide) (Nat.le_of_ble_eq_true rfl) ?_
  intro p e s m args below meth c A Q hX hnm hR
  refine Z.pick (lv' := [(0, .ref (h 4)), (1, .ref (h 1))]) [0, 1] rfl ?_
  refine Z.aload_n hX dX2_takeLines_0 rfl rfl ?_
  refine Z.callVfi (As := []) (rest := []) hX 5 1 rfl rfl (ct_X5_highestPower_r l D ce h pl ar G L B J ) mc_X5_highestPower ml_X2_33 im_X5_highestPower se_X5_highestPower ini_X5 nd_X5_highestPower ⟨Nat.le_of_ble_eq_true rfl, Nat.le_of_ble_eq_true rfl⟩ ⟨rfl, rfl⟩ ⟨Nat.le_refl _, Nat.le_refl _⟩ rfl (Nat.le_of_ble_eq_true rfl) dX2_takeLines_1 ?_
  rintro r_1 w1 ⟨tp, hr_, hw_, t1, t2, t3⟩
  subst hr_
  subst hw_
  refine Z.istore_n (lv' := [(2, .int (zI tp)), (0, .ref (h 4)), (1, .ref (h 1))]) hX dX2_takeLines_4 rfl (by decide) rfl ?_
  refine Z.iconst hX dX2_takeLines_5 ?_
  refine Z.istore_n (lv' := [(3, .int (zI 0)), (2, .int (zI tp)), (0, .ref (h 4)), (1, .ref (h 1))]) hX dX2_takeLines_6 rfl (by decide) rfl ?_
  have key_7 : ∀ (N : Nat), ∀ (i : Int) (BB : Nat → Int) (MM : Nat → Nat → Int64), (tp - i).toNat < N → (hi : 0 ≤ i ∧ i ≤ tp) → (hM : BOK BB) → Z p l e { frames := 4, cells := 0, slots := 0, locals := 94 } s m args below meth c D A 4 0 0 Q 7 [(3, .int (zI i)), (2, .int (zI tp)), (1, .ref (h 1)), (0, .ref (h 4))] [] (cW ce h pl ar G L BB MM) := by
    intro N
    induction N with
    | zero => intro i BB MM hm; exact absurd hm (Nat.not_lt_zero _)
    | succ N ih_7 =>
      intro i BB MM hm hi hM
      refine Z.iload_n hX dX2_takeLines_7 rfl rfl ?_
      refine Z.iload_n hX dX2_takeLines_8 rfl rfl ?_
      refine Z.icmp_ge hX 50 dX2_takeLines_9 (by decide) ⟨by omega, by omega⟩ ⟨by omega, by omega⟩ ?_ ?_
      · intro c2
        refine Z.iload_n hX dX2_takeLines_50 rfl rfl ?_
        refine Z.iconst hX dX2_takeLines_51 ?_
        refine Z.icmp_ge hX 59 dX2_takeLines_52 (by decide) ⟨by omega, by omega⟩ ⟨by omega, by omega⟩ ?_ ?_
        · intro c3
          refine Z.iload_n hX dX2_takeLines_59 rfl rfl ?_
          refine Z.iconst hX dX2_takeLines_60 ?_
          refine Z.isub hX dX2_takeLines_61 ?_
          exact hR _ _ _ _ dX2_takeLines_62 ⟨(tp - 1), BB, MM, rfl, rfl, hM, (by omega)⟩
        · intro c3
          refine Z.iconst hX dX2_takeLines_55 ?_
          refine Z.goto hX 62 dX2_takeLines_56 (by decide) ?_
          exact hR _ _ _ _ dX2_takeLines_62 ⟨0, BB, MM, rfl, rfl, hM, (by omega)⟩
      · intro c2
        refine Z.aload_n hX dX2_takeLines_12 rfl rfl ?_
        refine Z.getf hX 2 4 0 dX2_takeLines_13 rfl rfl inX2 (by decide) fl_X2_11 rfl rfl ?_
        refine Z.iload_n hX dX2_takeLines_16 rfl rfl ?_
        refine Z.aaload hX 14 4 dX2_takeLines_17 rfl rfl rfl (by omega) (by omega) (by decide) rfl ?_
        refine Z.aload_n hX dX2_takeLines_18 rfl rfl ?_
        refine Z.iload_n hX dX2_takeLines_19 rfl rfl ?_
        refine Z.iconst hX dX2_takeLines_20 ?_
        refine Z.iadd hX dX2_takeLines_21 ?_
        refine Z.iload_n hX dX2_takeLines_22 rfl rfl ?_
        refine Z.iconst hX dX2_takeLines_23 ?_
        refine Z.iadd hX dX2_takeLines_24 ?_
        refine Z.i2l hX dX2_takeLines_25 ⟨by omega, by omega⟩ ?_
        refine Z.callSfv (As := [.ref (pl (i : Int).toNat), .ref (h 1), .int (zI (i + 1)), .long (zL (i + 1))]) (rest := []) hX (ct_X2_setScaledLine l D ce h pl ar G L BB MM ((i : Int).toNat) (i + 1) (zL (i + 1)) hM (by omega) (by omega)) mc_X2_setScaledLine ml_X2_45 st_X2_setScaledLine ini_X2 nd_X2_setScaledLine ⟨Nat.le_of_ble_eq_true rfl, Nat.le_of_ble_eq_true rfl⟩ ⟨rfl, rfl⟩ ⟨Nat.le_refl _, Nat.le_refl _⟩ rfl (Nat.le_of_ble_eq_true rfl) dX2_takeLines_26 ?_
        rintro w1 ⟨B25, J26, hw_, hs3⟩
        subst hw_
        refine Z.aload_n hX dX2_takeLines_29 rfl rfl ?_
        refine Z.getf hX 2 4 1 dX2_takeLines_30 rfl rfl inX2 (by decide) fl_X2_17 rfl rfl ?_
        refine Z.iload_n hX dX2_takeLines_33 rfl rfl ?_
        refine Z.aaload hX 15 4 dX2_takeLines_34 rfl rfl rfl (by omega) (by omega) (by decide) rfl ?_
        refine Z.aload_n hX dX2_takeLines_35 rfl rfl ?_
        refine Z.iload_n hX dX2_takeLines_36 rfl rfl ?_
        refine Z.iload_n hX dX2_takeLines_37 rfl rfl ?_
        refine Z.iload_n hX dX2_takeLines_38 rfl rfl ?_
        refine Z.isub hX dX2_takeLines_39 ?_
        refine Z.i2l hX dX2_takeLines_40 ⟨by omega, by omega⟩ ?_
        refine Z.callSfv (As := [.ref (pl (5 + (i : Int).toNat)), .ref (h 1), .int (zI i), .long (zL (tp - i))]) (rest := []) hX (ct_X2_setScaledLine l D ce h pl ar G L B25 J26 ((5 + (i : Int).toNat)) i (zL (tp - i)) hs3 (by omega) (by omega)) mc_X2_setScaledLine ml_X2_45 st_X2_setScaledLine ini_X2 nd_X2_setScaledLine ⟨Nat.le_of_ble_eq_true rfl, Nat.le_of_ble_eq_true rfl⟩ ⟨rfl, rfl⟩ ⟨Nat.le_refl _, Nat.le_refl _⟩ rfl (Nat.le_of_ble_eq_true rfl) dX2_takeLines_41 ?_
        rintro w1 ⟨B28, J29, hw_, ht3⟩
        subst hw_
        refine Z.iinc (lv' := [(3, .int (zI (i + 1))), (2, .int (zI tp)), (1, .ref (h 1)), (0, .ref (h 4))]) hX dX2_takeLines_44 rfl (by decide) rfl ?_
        refine Z.goto hX 7 dX2_takeLines_47 (by decide) ?_
        refine Z.pick [0, 1, 2, 3] rfl ?_
        exact ih_7 _ _ _ (by omega) (by omega) ht3
  refine Z.pick [0, 1, 3, 2] rfl ?_
  exact key_7 _ _ _ _ (Nat.lt_succ_self _) (by omega) hB

theorem dX2_fillEntry_0 : decode cX2_fillEntry 0 = .ok (.aload_n 0, 1) := by decide +kernel
theorem dX2_fillEntry_1 : decode cX2_fillEntry 1 = .ok (.getfield 20, 3) := by decide +kernel
theorem dX2_fillEntry_4 : decode cX2_fillEntry 4 = .ok (.iload_n 1, 1) := by decide +kernel
theorem dX2_fillEntry_5 : decode cX2_fillEntry 5 = .ok (.iconst 4, 1) := by decide +kernel
theorem dX2_fillEntry_6 : decode cX2_fillEntry 6 = .ok (.imul, 1) := by decide +kernel
theorem dX2_fillEntry_7 : decode cX2_fillEntry 7 = .ok (.iload_n 2, 1) := by decide +kernel
theorem dX2_fillEntry_8 : decode cX2_fillEntry 8 = .ok (.iadd, 1) := by decide +kernel
theorem dX2_fillEntry_9 : decode cX2_fillEntry 9 = .ok (.aaload, 1) := by decide +kernel
theorem dX2_fillEntry_10 : decode cX2_fillEntry 10 = .ok (.astore 4, 2) := by decide +kernel
theorem dX2_fillEntry_12 : decode cX2_fillEntry 12 = .ok (.aload 4, 2) := by decide +kernel
theorem dX2_fillEntry_14 : decode cX2_fillEntry 14 = .ok (.invokevirtual 53, 3) := by decide +kernel
theorem dX2_fillEntry_17 : decode cX2_fillEntry 17 = .ok (.iload_n 1, 1) := by decide +kernel
theorem dX2_fillEntry_18 : decode cX2_fillEntry 18 = .ok (.iload_n 3, 1) := by decide +kernel
theorem dX2_fillEntry_19 : decode cX2_fillEntry 19 = .ok (.iconst 1, 1) := by decide +kernel
theorem dX2_fillEntry_20 : decode cX2_fillEntry 20 = .ok (.isub, 1) := by decide +kernel
theorem dX2_fillEntry_21 : decode cX2_fillEntry 21 = .ok (.iload_n 2, 1) := by decide +kernel
theorem dX2_fillEntry_22 : decode cX2_fillEntry 22 = .ok (.isub, 1) := by decide +kernel
theorem dX2_fillEntry_23 : decode cX2_fillEntry 23 = .ok (.invokestatic 64, 3) := by decide +kernel
theorem dX2_fillEntry_26 : decode cX2_fillEntry 26 = .ok (.istore 5, 2) := by decide +kernel
theorem dX2_fillEntry_28 : decode cX2_fillEntry 28 = .ok (.iconst 0, 1) := by decide +kernel
theorem dX2_fillEntry_29 : decode cX2_fillEntry 29 = .ok (.istore 6, 2) := by decide +kernel
theorem dX2_fillEntry_31 : decode cX2_fillEntry 31 = .ok (.iload 6, 2) := by decide +kernel
theorem dX2_fillEntry_33 : decode cX2_fillEntry 33 = .ok (.iload 5, 2) := by decide +kernel
theorem dX2_fillEntry_35 : decode cX2_fillEntry 35 = .ok (.if_icmp .gt 63, 3) := by decide +kernel
theorem dX2_fillEntry_38 : decode cX2_fillEntry 38 = .ok (.aload 4, 2) := by decide +kernel
theorem dX2_fillEntry_40 : decode cX2_fillEntry 40 = .ok (.aload_n 0, 1) := by decide +kernel
theorem dX2_fillEntry_41 : decode cX2_fillEntry 41 = .ok (.getfield 11, 3) := by decide +kernel
theorem dX2_fillEntry_44 : decode cX2_fillEntry 44 = .ok (.iload_n 2, 1) := by decide +kernel
theorem dX2_fillEntry_45 : decode cX2_fillEntry 45 = .ok (.iload 6, 2) := by decide +kernel
theorem dX2_fillEntry_47 : decode cX2_fillEntry 47 = .ok (.iadd, 1) := by decide +kernel
theorem dX2_fillEntry_48 : decode cX2_fillEntry 48 = .ok (.iconst 1, 1) := by decide +kernel
theorem dX2_fillEntry_49 : decode cX2_fillEntry 49 = .ok (.iadd, 1) := by decide +kernel
theorem dX2_fillEntry_50 : decode cX2_fillEntry 50 = .ok (.aaload, 1) := by decide +kernel
theorem dX2_fillEntry_51 : decode cX2_fillEntry 51 = .ok (.aload_n 0, 1) := by decide +kernel
theorem dX2_fillEntry_52 : decode cX2_fillEntry 52 = .ok (.getfield 17, 3) := by decide +kernel
theorem dX2_fillEntry_55 : decode cX2_fillEntry 55 = .ok (.iload_n 1, 1) := by decide +kernel
theorem dX2_fillEntry_56 : decode cX2_fillEntry 56 = .ok (.iload 6, 2) := by decide +kernel
theorem dX2_fillEntry_58 : decode cX2_fillEntry 58 = .ok (.isub, 1) := by decide +kernel
theorem dX2_fillEntry_59 : decode cX2_fillEntry 59 = .ok (.aaload, 1) := by decide +kernel
theorem dX2_fillEntry_60 : decode cX2_fillEntry 60 = .ok (.lconst 1, 1) := by decide +kernel
theorem dX2_fillEntry_61 : decode cX2_fillEntry 61 = .ok (.invokevirtual 70, 3) := by decide +kernel
theorem dX2_fillEntry_64 : decode cX2_fillEntry 64 = .ok (.aload 4, 2) := by decide +kernel
theorem dX2_fillEntry_66 : decode cX2_fillEntry 66 = .ok (.aload_n 0, 1) := by decide +kernel
theorem dX2_fillEntry_67 : decode cX2_fillEntry 67 = .ok (.getfield 11, 3) := by decide +kernel
theorem dX2_fillEntry_70 : decode cX2_fillEntry 70 = .ok (.iload_n 1, 1) := by decide +kernel
theorem dX2_fillEntry_71 : decode cX2_fillEntry 71 = .ok (.iload 6, 2) := by decide +kernel
theorem dX2_fillEntry_73 : decode cX2_fillEntry 73 = .ok (.isub, 1) := by decide +kernel
theorem dX2_fillEntry_74 : decode cX2_fillEntry 74 = .ok (.aaload, 1) := by decide +kernel
theorem dX2_fillEntry_75 : decode cX2_fillEntry 75 = .ok (.aload_n 0, 1) := by decide +kernel
theorem dX2_fillEntry_76 : decode cX2_fillEntry 76 = .ok (.getfield 17, 3) := by decide +kernel
theorem dX2_fillEntry_79 : decode cX2_fillEntry 79 = .ok (.iload_n 2, 1) := by decide +kernel
theorem dX2_fillEntry_80 : decode cX2_fillEntry 80 = .ok (.iload 6, 2) := by decide +kernel
theorem dX2_fillEntry_82 : decode cX2_fillEntry 82 = .ok (.iadd, 1) := by decide +kernel
theorem dX2_fillEntry_83 : decode cX2_fillEntry 83 = .ok (.iconst 1, 1) := by decide +kernel
theorem dX2_fillEntry_84 : decode cX2_fillEntry 84 = .ok (.iadd, 1) := by decide +kernel
theorem dX2_fillEntry_85 : decode cX2_fillEntry 85 = .ok (.aaload, 1) := by decide +kernel
theorem dX2_fillEntry_86 : decode cX2_fillEntry 86 = .ok (.ldc2_w 74, 3) := by decide +kernel
theorem dX2_fillEntry_89 : decode cX2_fillEntry 89 = .ok (.invokevirtual 70, 3) := by decide +kernel
theorem dX2_fillEntry_92 : decode cX2_fillEntry 92 = .ok (.iinc 6 1, 3) := by decide +kernel
theorem dX2_fillEntry_95 : decode cX2_fillEntry 95 = .ok (.goto (-64), 3) := by decide +kernel
theorem dX2_fillEntry_98 : decode cX2_fillEntry 98 = .ok (.aload 4, 2) := by decide +kernel
theorem dX2_fillEntry_100 : decode cX2_fillEntry 100 = .ok (.invokevirtual 76, 3) := by decide +kernel
theorem dX2_fillEntry_103 : decode cX2_fillEntry 103 = .ok (.return_, 1) := by decide +kernel
set_option maxHeartbeats 4000000 in
set_option maxRecDepth 100000 in
theorem ct_X2_fillEntry (l : Launch) (D : va_G) (ce : Nat → ClassId) (h pl ar : Nat → Nat) (G : Nat → Int) (L : Nat → Nat → Int64) (B : Nat → Int) (J : Nat → Nat → Int64) (i j size : Int) (hB : BOK B) (hij : 0 ≤ i ∧ i ≤ j ∧ j < size ∧ size ≤ 4) : Ct l yX2_fillEntry cX2_fillEntry 7 none { frames := 3, cells := 0, slots := 0, locals := 62 } 0 0 D (TY ce) [.ref (h 4), .int (zI i), .int (zI j), .int (zI size)] (cW ce h pl ar G L B J) (QV D (TY ce) (fun w1 => ∃ B2 : Nat → Int, ∃ J2 : Nat → Nat → Int64, w1 = cW ce h pl ar G L B2 J2 ∧ (BOK B2))) := by
  refine Ct.ofV (by decide) (Nat.le_of_ble_eq_true rfl) ?_
  intro p e s m args below meth c A Q hX hnm hR
  refine Z.pick (lv' := [(0, .ref (h 4)), (1, .int (zI i)), (2, .int (zI j)), (3, .int (zI size))]) [0, 1, 2, 3] rfl ?_
  have htl := tri_lt (i * 4 + j : Int).toNat
  refine Z.aload_n hX dX2_fillEntry_0 rfl rfl ?_
  refine Z.getf hX 2 4 2 dX2_fillEntry_1 rfl rfl inX2 (by decide) fl_X2_20 rfl rfl ?_
  refine Z.iload_n hX dX2_fillEntry_4 rfl rfl ?_
  refine Z.iconst hX dX2_fillEntry_5 ?_
  refine Z.imul hX dX2_fillEntry_6 ?_
  refine Z.iload_n hX dX2_fillEntry_7 rfl rfl ?_
  refine Z.iadd hX dX2_fillEntry_8 ?_
  refine Z.aaload hX 16 4 dX2_fillEntry_9 rfl rfl rfl (by omega) (by omega) (by decide) rfl ?_
  refine Z.astore (lv' := [(4, .ref (pl (10 + tri ((i * 4) + j : Int).toNat))), (0, .ref (h 4)), (1, .int (zI i)), (2, .int (zI j)), (3, .int (zI size))]) hX dX2_fillEntry_10 (by decide) rfl ?_
  refine Z.aload hX dX2_fillEntry_12 rfl ?_
  refine Z.callVfv (As := []) (rest := []) hX 3 (24 + (10 + tri ((i * 4) + j : Int).toNat)) rfl (cW_pl (by have := tri_lt ((i * 4) + j : Int).toNat; omega)) (ct_X3_erase l D ce h pl ar G L B J ((10 + tri ((i * 4) + j : Int).toNat)) (by omega) hB) mc_X3_erase ml_X2_53 im_X3_erase se_X3_erase ini_X3 nd_X3_erase ⟨Nat.le_of_ble_eq_true rfl, Nat.le_of_ble_eq_true rfl⟩ ⟨rfl, rfl⟩ ⟨Nat.le_refl _, Nat.le_refl _⟩ rfl (Nat.le_of_ble_eq_true rfl) dX2_fillEntry_14 ?_
  rintro w1 ⟨B22, J23, hw_, hp1, hp2, hp3, hp4⟩
  subst hw_
  refine Z.iload_n hX dX2_fillEntry_17 rfl rfl ?_
  refine Z.iload_n hX dX2_fillEntry_18 rfl rfl ?_
  refine Z.iconst hX dX2_fillEntry_19 ?_
  refine Z.isub hX dX2_fillEntry_20 ?_
  refine Z.iload_n hX dX2_fillEntry_21 rfl rfl ?_
  refine Z.isub hX dX2_fillEntry_22 ?_
  refine Z.mmin hX dX2_fillEntry_23 mm_X2_64 ⟨by omega, by omega⟩ ⟨by omega, by omega⟩ (by decide) (Nat.le_of_ble_eq_true rfl) (Nat.le_refl _) (Nat.le_refl _) ?_
  obtain ⟨z4, ez4⟩ : ∃ x : Int, x = (if (size - 1) - j < i then (size - 1) - j else i) := ⟨_, rfl⟩
  rw [← ez4]
  have hla : z4 ≤ i ∧ z4 ≤ size - 1 - j := by rw [ez4]; split <;> omega
  obtain ⟨la, ela⟩ : ∃ x : Int, x = z4 := ⟨_, rfl⟩
  rw [← ela]
  rw [← ela] at hla
  refine Z.istore (lv' := [(5, .int (zI la)), (4, .ref (pl (10 + tri ((i * 4) + j : Int).toNat))), (0, .ref (h 4)), (1, .int (zI i)), (2, .int (zI j)), (3, .int (zI size))]) hX dX2_fillEntry_26 (by decide) rfl ?_
  refine Z.iconst hX dX2_fillEntry_28 ?_
  refine Z.istore (lv' := [(6, .int (zI 0)), (5, .int (zI la)), (4, .ref (pl (10 + tri ((i * 4) + j : Int).toNat))), (0, .ref (h 4)), (1, .int (zI i)), (2, .int (zI j)), (3, .int (zI size))]) hX dX2_fillEntry_29 (by decide) rfl ?_
  have key_31 : ∀ (N : Nat), ∀ (q : Int) (BB : Nat → Int) (MM : Nat → Nat → Int64), (la + 1 - q).toNat < N → (hq : 0 ≤ q ∧ (q ≤ la + 1 ∨ q = 0)) → (hM : BOK BB) → Z p l e { frames := 3, cells := 0, slots := 0, locals := 62 } s m args below meth c D A 7 0 0 Q 31 [(6, .int (zI q)), (5, .int (zI la)), (4, .ref (pl (10 + tri (i * 4 + j : Int).toNat))), (3, .int (zI size)), (2, .int (zI j)), (1, .int (zI i)), (0, .ref (h 4))] [] (cW ce h pl ar G L BB MM) := by
    intro N
    induction N with
    | zero => intro q BB MM hm; exact absurd hm (Nat.not_lt_zero _)
    | succ N ih_31 =>
      intro q BB MM hm hq hM
      refine Z.iload hX dX2_fillEntry_31 rfl ?_
      refine Z.iload hX dX2_fillEntry_33 rfl ?_
      refine Z.icmp_gt hX 98 dX2_fillEntry_35 (by decide) ⟨by omega, by omega⟩ ⟨by omega, by omega⟩ ?_ ?_
      · intro c5
        refine Z.aload hX dX2_fillEntry_98 rfl ?_
        refine Z.callVfv (As := []) (rest := []) hX 3 (24 + (10 + tri (i * 4 + j : Int).toNat)) rfl (cW_pl (by have := tri_lt (i * 4 + j : Int).toNat; omega)) (ct_X3_tighten l D ce h pl ar G L BB MM ((10 + tri (i * 4 + j : Int).toNat)) (by omega) hM) mc_X3_tighten ml_X2_76 im_X3_tighten se_X3_tighten ini_X3 nd_X3_tighten ⟨Nat.le_of_ble_eq_true rfl, Nat.le_of_ble_eq_true rfl⟩ ⟨rfl, rfl⟩ ⟨Nat.le_refl _, Nat.le_refl _⟩ rfl (Nat.le_of_ble_eq_true rfl) dX2_fillEntry_100 ?_
        rintro w1 ⟨B27, hw_, hc1, hc2, hc3⟩
        subst hw_
        exact hR _ _ _ dX2_fillEntry_103 ⟨B27, MM, rfl, hc2⟩
      · intro c5
        refine Z.aload hX dX2_fillEntry_38 rfl ?_
        refine Z.aload_n hX dX2_fillEntry_40 rfl rfl ?_
        refine Z.getf hX 2 4 0 dX2_fillEntry_41 rfl rfl inX2 (by decide) fl_X2_11 rfl rfl ?_
        refine Z.iload_n hX dX2_fillEntry_44 rfl rfl ?_
        refine Z.iload hX dX2_fillEntry_45 rfl ?_
        refine Z.iadd hX dX2_fillEntry_47 ?_
        refine Z.iconst hX dX2_fillEntry_48 ?_
        refine Z.iadd hX dX2_fillEntry_49 ?_
        refine Z.aaload hX 14 4 dX2_fillEntry_50 rfl rfl rfl (by omega) (by omega) (by decide) rfl ?_
        refine Z.aload_n hX dX2_fillEntry_51 rfl rfl ?_
        refine Z.getf hX 2 4 1 dX2_fillEntry_52 rfl rfl inX2 (by decide) fl_X2_17 rfl rfl ?_
        refine Z.iload_n hX dX2_fillEntry_55 rfl rfl ?_
        refine Z.iload hX dX2_fillEntry_56 rfl ?_
        refine Z.isub hX dX2_fillEntry_58 ?_
        refine Z.aaload hX 15 4 dX2_fillEntry_59 rfl rfl rfl (by omega) (by omega) (by decide) rfl ?_
        refine Z.lconst (v := 1) hX dX2_fillEntry_60 rfl ?_
        refine Z.callVfv (As := [.ref (pl ((j + q) + 1 : Int).toNat), .ref (pl (5 + (i - q : Int).toNat)), .long 1]) (rest := []) hX 3 (24 + (10 + tri (i * 4 + j : Int).toNat)) rfl (cW_pl (by have := tri_lt (i * 4 + j : Int).toNat; omega)) (ct_X3_addProduct l D ce h pl ar G L BB MM ((10 + tri (i * 4 + j : Int).toNat)) (((j + q) + 1 : Int).toNat) ((5 + (i - q : Int).toNat)) 1 (by omega) hM (by omega) (by omega)) mc_X3_addProduct ml_X2_70 im_X3_addProduct se_X3_addProduct ini_X3 nd_X3_addProduct ⟨Nat.le_of_ble_eq_true rfl, Nat.le_of_ble_eq_true rfl⟩ ⟨rfl, rfl⟩ ⟨Nat.le_refl _, Nat.le_refl _⟩ rfl (Nat.le_of_ble_eq_true rfl) dX2_fillEntry_61 ?_
        rintro w1 ⟨B29, J210, hw_, ha1, ha2, ha3⟩
        subst hw_
        refine Z.aload hX dX2_fillEntry_64 rfl ?_
        refine Z.aload_n hX dX2_fillEntry_66 rfl rfl ?_
        refine Z.getf hX 2 4 0 dX2_fillEntry_67 rfl rfl inX2 (by decide) fl_X2_11 rfl rfl ?_
        refine Z.iload_n hX dX2_fillEntry_70 rfl rfl ?_
        refine Z.iload hX dX2_fillEntry_71 rfl ?_
        refine Z.isub hX dX2_fillEntry_73 ?_
        refine Z.aaload hX 14 4 dX2_fillEntry_74 rfl rfl rfl (by omega) (by omega) (by decide) rfl ?_
        refine Z.aload_n hX dX2_fillEntry_75 rfl rfl ?_
        refine Z.getf hX 2 4 1 dX2_fillEntry_76 rfl rfl inX2 (by decide) fl_X2_17 rfl rfl ?_
        refine Z.iload_n hX dX2_fillEntry_79 rfl rfl ?_
        refine Z.iload hX dX2_fillEntry_80 rfl ?_
        refine Z.iadd hX dX2_fillEntry_82 ?_
        refine Z.iconst hX dX2_fillEntry_83 ?_
        refine Z.iadd hX dX2_fillEntry_84 ?_
        refine Z.aaload hX 15 4 dX2_fillEntry_85 rfl rfl rfl (by omega) (by omega) (by decide) rfl ?_
        refine Z.ldc2 hX dX2_fillEntry_86 co_X2_74 ?_
        refine Z.callVfv (As := [.ref (pl (i - q : Int).toNat), .ref (pl (5 + ((j + q) + 1 : Int).toNat)), .long (-1)]) (rest := []) hX 3 (24 + (10 + tri (i * 4 + j : Int).toNat)) rfl (cW_pl (by have := tri_lt (i * 4 + j : Int).toNat; omega)) (ct_X3_addProduct l D ce h pl ar G L B29 J210 ((10 + tri (i * 4 + j : Int).toNat)) ((i - q : Int).toNat) ((5 + ((j + q) + 1 : Int).toNat)) (-1) (by omega) ha3 (by omega) (by omega)) mc_X3_addProduct ml_X2_70 im_X3_addProduct se_X3_addProduct ini_X3 nd_X3_addProduct ⟨Nat.le_of_ble_eq_true rfl, Nat.le_of_ble_eq_true rfl⟩ ⟨rfl, rfl⟩ ⟨Nat.le_refl _, Nat.le_refl _⟩ rfl (Nat.le_of_ble_eq_true rfl) dX2_fillEntry_89 ?_
        rintro w1 ⟨B212, J213, hw_, hb1, hb2, hb3⟩
        subst hw_
        refine Z.iinc (lv' := [(6, .int (zI (q + 1))), (5, .int (zI la)), (4, .ref (pl (10 + tri (i * 4 + j : Int).toNat))), (3, .int (zI size)), (2, .int (zI j)), (1, .int (zI i)), (0, .ref (h 4))]) hX dX2_fillEntry_92 rfl (by decide) rfl ?_
        refine Z.goto hX 31 dX2_fillEntry_95 (by decide) ?_
        refine Z.pick [0, 1, 2, 3, 4, 5, 6] rfl ?_
        exact ih_31 _ _ _ (by omega) (by omega) hb3
  refine Z.pick [0, 1, 2, 6, 5, 4, 3] rfl ?_
  exact key_31 _ _ _ _ (Nat.lt_succ_self _) (by omega) hp3

theorem dX2_fillMinor_0 : decode cX2_fillMinor 0 = .ok (.aload_n 0, 1) := by decide +kernel
theorem dX2_fillMinor_1 : decode cX2_fillMinor 1 = .ok (.getfield 23, 3) := by decide +kernel
theorem dX2_fillMinor_4 : decode cX2_fillMinor 4 = .ok (.iload_n 1, 1) := by decide +kernel
theorem dX2_fillMinor_5 : decode cX2_fillMinor 5 = .ok (.aaload, 1) := by decide +kernel
theorem dX2_fillMinor_6 : decode cX2_fillMinor 6 = .ok (.astore_n 3, 1) := by decide +kernel
theorem dX2_fillMinor_7 : decode cX2_fillMinor 7 = .ok (.aload_n 3, 1) := by decide +kernel
theorem dX2_fillMinor_8 : decode cX2_fillMinor 8 = .ok (.invokevirtual 53, 3) := by decide +kernel
theorem dX2_fillMinor_11 : decode cX2_fillMinor 11 = .ok (.iload_n 1, 1) := by decide +kernel
theorem dX2_fillMinor_12 : decode cX2_fillMinor 12 = .ok (.invokestatic 79, 3) := by decide +kernel
theorem dX2_fillMinor_15 : decode cX2_fillMinor 15 = .ok (.iconst 1, 1) := by decide +kernel
theorem dX2_fillMinor_16 : decode cX2_fillMinor 16 = .ok (.isub, 1) := by decide +kernel
theorem dX2_fillMinor_17 : decode cX2_fillMinor 17 = .ok (.istore 4, 2) := by decide +kernel
theorem dX2_fillMinor_19 : decode cX2_fillMinor 19 = .ok (.iconst 1, 1) := by decide +kernel
theorem dX2_fillMinor_20 : decode cX2_fillMinor 20 = .ok (.istore 5, 2) := by decide +kernel
theorem dX2_fillMinor_22 : decode cX2_fillMinor 22 = .ok (.iload_n 2, 1) := by decide +kernel
theorem dX2_fillMinor_23 : decode cX2_fillMinor 23 = .ok (.iconst 1, 1) := by decide +kernel
theorem dX2_fillMinor_24 : decode cX2_fillMinor 24 = .ok (.isub, 1) := by decide +kernel
theorem dX2_fillMinor_25 : decode cX2_fillMinor 25 = .ok (.istore 6, 2) := by decide +kernel
theorem dX2_fillMinor_27 : decode cX2_fillMinor 27 = .ok (.iload 6, 2) := by decide +kernel
theorem dX2_fillMinor_29 : decode cX2_fillMinor 29 = .ok (.ifCond .lt 54, 3) := by decide +kernel
theorem dX2_fillMinor_32 : decode cX2_fillMinor 32 = .ok (.iload_n 1, 1) := by decide +kernel
theorem dX2_fillMinor_33 : decode cX2_fillMinor 33 = .ok (.iload 6, 2) := by decide +kernel
theorem dX2_fillMinor_35 : decode cX2_fillMinor 35 = .ok (.ishr, 1) := by decide +kernel
theorem dX2_fillMinor_36 : decode cX2_fillMinor 36 = .ok (.iconst 1, 1) := by decide +kernel
theorem dX2_fillMinor_37 : decode cX2_fillMinor 37 = .ok (.iand, 1) := by decide +kernel
theorem dX2_fillMinor_38 : decode cX2_fillMinor 38 = .ok (.iconst 1, 1) := by decide +kernel
theorem dX2_fillMinor_39 : decode cX2_fillMinor 39 = .ok (.if_icmp .ne 38, 3) := by decide +kernel
theorem dX2_fillMinor_42 : decode cX2_fillMinor 42 = .ok (.aload_n 3, 1) := by decide +kernel
theorem dX2_fillMinor_43 : decode cX2_fillMinor 43 = .ok (.aload_n 0, 1) := by decide +kernel
theorem dX2_fillMinor_44 : decode cX2_fillMinor 44 = .ok (.getfield 20, 3) := by decide +kernel
theorem dX2_fillMinor_47 : decode cX2_fillMinor 47 = .ok (.iload 4, 2) := by decide +kernel
theorem dX2_fillMinor_49 : decode cX2_fillMinor 49 = .ok (.iconst 4, 1) := by decide +kernel
theorem dX2_fillMinor_50 : decode cX2_fillMinor 50 = .ok (.imul, 1) := by decide +kernel
theorem dX2_fillMinor_51 : decode cX2_fillMinor 51 = .ok (.iload 6, 2) := by decide +kernel
theorem dX2_fillMinor_53 : decode cX2_fillMinor 53 = .ok (.iadd, 1) := by decide +kernel
theorem dX2_fillMinor_54 : decode cX2_fillMinor 54 = .ok (.aaload, 1) := by decide +kernel
theorem dX2_fillMinor_55 : decode cX2_fillMinor 55 = .ok (.aload_n 0, 1) := by decide +kernel
theorem dX2_fillMinor_56 : decode cX2_fillMinor 56 = .ok (.getfield 23, 3) := by decide +kernel
theorem dX2_fillMinor_59 : decode cX2_fillMinor 59 = .ok (.iload_n 1, 1) := by decide +kernel
theorem dX2_fillMinor_60 : decode cX2_fillMinor 60 = .ok (.iconst 1, 1) := by decide +kernel
theorem dX2_fillMinor_61 : decode cX2_fillMinor 61 = .ok (.iload 6, 2) := by decide +kernel
theorem dX2_fillMinor_63 : decode cX2_fillMinor 63 = .ok (.ishl, 1) := by decide +kernel
theorem dX2_fillMinor_64 : decode cX2_fillMinor 64 = .ok (.ixor, 1) := by decide +kernel
theorem dX2_fillMinor_65 : decode cX2_fillMinor 65 = .ok (.aaload, 1) := by decide +kernel
theorem dX2_fillMinor_66 : decode cX2_fillMinor 66 = .ok (.iload 5, 2) := by decide +kernel
theorem dX2_fillMinor_68 : decode cX2_fillMinor 68 = .ok (.i2l, 1) := by decide +kernel
theorem dX2_fillMinor_69 : decode cX2_fillMinor 69 = .ok (.invokevirtual 70, 3) := by decide +kernel
theorem dX2_fillMinor_72 : decode cX2_fillMinor 72 = .ok (.iload 5, 2) := by decide +kernel
theorem dX2_fillMinor_74 : decode cX2_fillMinor 74 = .ok (.ineg, 1) := by decide +kernel
theorem dX2_fillMinor_75 : decode cX2_fillMinor 75 = .ok (.istore 5, 2) := by decide +kernel
theorem dX2_fillMinor_77 : decode cX2_fillMinor 77 = .ok (.iinc 6 (-1), 3) := by decide +kernel
theorem dX2_fillMinor_80 : decode cX2_fillMinor 80 = .ok (.goto (-53), 3) := by decide +kernel
theorem dX2_fillMinor_83 : decode cX2_fillMinor 83 = .ok (.return_, 1) := by decide +kernel
set_option maxHeartbeats 4000000 in
set_option maxRecDepth 100000 in
theorem ct_X2_fillMinor (l : Launch) (D : va_G) (ce : Nat → ClassId) (h pl ar : Nat → Nat) (G : Nat → Int) (L : Nat → Nat → Int64) (B : Nat → Int) (J : Nat → Nat → Int64) (col size : Int) (hB : BOK B) (hc : 1 ≤ col ∧ col < 16) (hs : 1 ≤ size ∧ size ≤ 4) : Ct l yX2_fillMinor cX2_fillMinor 7 none { frames := 2, cells := 0, slots := 0, locals := 55 } 0 0 D (TY ce) [.ref (h 4), .int (zI col), .int (zI size)] (cW ce h pl ar G L B J) (QV D (TY ce) (fun w1 => ∃ B2 : Nat → Int, ∃ J2 : Nat → Nat → Int64, w1 = cW ce h pl ar G L B2 J2 ∧ (BOK B2))) := by
  refine Ct.ofV (by decide) (Nat.le_of_ble_eq_true rfl) ?_
  intro p e s m args below meth c A Q hX hnm hR
  refine Z.pick (lv' := [(0, .ref (h 4)), (1, .int (zI col)), (2, .int (zI size))]) [0, 1, 2] rfl ?_
  refine Z.aload_n hX dX2_fillMinor_0 rfl rfl ?_
  refine Z.getf hX 2 4 3 dX2_fillMinor_1 rfl rfl inX2 (by decide) fl_X2_23 rfl rfl ?_
  refine Z.iload_n hX dX2_fillMinor_4 rfl rfl ?_
  refine Z.aaload hX 17 4 dX2_fillMinor_5 rfl rfl rfl (by omega) (by omega) (by decide) rfl ?_
  refine Z.astore_n (lv' := [(3, .ref (pl (20 + (col : Int).toNat))), (0, .ref (h 4)), (1, .int (zI col)), (2, .int (zI size))]) hX dX2_fillMinor_6 rfl (by decide) rfl ?_
  refine Z.aload_n hX dX2_fillMinor_7 rfl rfl ?_
  refine Z.callVfv (As := []) (rest := []) hX 3 (24 + (20 + (col : Int).toNat)) rfl (cW_pl (by omega)) (ct_X3_erase l D ce h pl ar G L B J ((20 + (col : Int).toNat)) (by omega) hB) mc_X3_erase ml_X2_53 im_X3_erase se_X3_erase ini_X3 nd_X3_erase ⟨Nat.le_of_ble_eq_true rfl, Nat.le_of_ble_eq_true rfl⟩ ⟨rfl, rfl⟩ ⟨Nat.le_refl _, Nat.le_refl _⟩ rfl (Nat.le_of_ble_eq_true rfl) dX2_fillMinor_8 ?_
  rintro w1 ⟨B22, J23, hw_, hp1, hp2, hp3, hp4⟩
  subst hw_
  refine Z.iload_n hX dX2_fillMinor_11 rfl rfl ?_
  refine Z.callS0i (As := [.int (zI col)]) (rest := []) hX (ct_J6_bitCount_0f7a4 l D ce col (by omega)) mc_J6_bitCount_0f7a4 ml_X2_79 st_J6_bitCount_0f7a4 ini_J6 nd_J6_bitCount_0f7a4 ⟨Nat.le_of_ble_eq_true rfl, Nat.le_of_ble_eq_true rfl⟩ ⟨rfl, rfl⟩ ⟨Nat.le_refl _, Nat.le_refl _⟩ rfl (Nat.le_of_ble_eq_true rfl) dX2_fillMinor_12 ?_
  rintro r_4 w1 ⟨bcn, hr_, hw_, ebc⟩
  subst hr_
  refine ⟨hw_, ?_⟩
  have hbc := pc16b (a := col) (by omega) (by omega)
  refine Z.iconst hX dX2_fillMinor_15 ?_
  refine Z.isub hX dX2_fillMinor_16 ?_
  refine Z.istore (lv' := [(4, .int (zI (bcn - 1))), (3, .ref (pl (20 + (col : Int).toNat))), (0, .ref (h 4)), (1, .int (zI col)), (2, .int (zI size))]) hX dX2_fillMinor_17 (by decide) rfl ?_
  refine Z.iconst hX dX2_fillMinor_19 ?_
  refine Z.istore (lv' := [(5, .int (zI 1)), (4, .int (zI (bcn - 1))), (3, .ref (pl (20 + (col : Int).toNat))), (0, .ref (h 4)), (1, .int (zI col)), (2, .int (zI size))]) hX dX2_fillMinor_20 (by decide) rfl ?_
  refine Z.iload_n hX dX2_fillMinor_22 rfl rfl ?_
  refine Z.iconst hX dX2_fillMinor_23 ?_
  refine Z.isub hX dX2_fillMinor_24 ?_
  refine Z.istore (lv' := [(6, .int (zI (size - 1))), (5, .int (zI 1)), (4, .int (zI (bcn - 1))), (3, .ref (pl (20 + (col : Int).toNat))), (0, .ref (h 4)), (1, .int (zI col)), (2, .int (zI size))]) hX dX2_fillMinor_25 (by decide) rfl ?_
  have key_27 : ∀ (N : Nat), ∀ (cn sg : Int) (BB : Nat → Int) (MM : Nat → Nat → Int64), (cn + 1).toNat < N → (hcn : -1 ≤ cn ∧ cn ≤ size - 1) → (hsg : -1 ≤ sg ∧ sg ≤ 1) → (hM : BOK BB) → Z p l e { frames := 2, cells := 0, slots := 0, locals := 55 } s m args below meth c D A 7 0 0 Q 27 [(6, .int (zI cn)), (5, .int (zI sg)), (4, .int (zI (bcn - 1))), (3, .ref (pl (20 + (col : Int).toNat))), (2, .int (zI size)), (1, .int (zI col)), (0, .ref (h 4))] [] (cW ce h pl ar G L BB MM) := by
    intro N
    induction N with
    | zero => intro cn sg BB MM hm; exact absurd hm (Nat.not_lt_zero _)
    | succ N ih_27 =>
      intro cn sg BB MM hm hcn hsg hM
      refine Z.iload hX dX2_fillMinor_27 rfl ?_
      refine Z.if_lt hX 83 dX2_fillMinor_29 (by decide) ⟨by omega, by omega⟩ ?_ ?_
      · intro c5
        exact hR _ _ _ dX2_fillMinor_83 ⟨BB, MM, rfl, hM⟩
      · intro c5
        obtain ⟨b, t, eb, eb1, eb3, eb4, eb2⟩ := bitc4 (s := col) (c := cn) (by omega) (by omega) (by omega) (by omega)
        refine Z.iload_n hX dX2_fillMinor_32 rfl rfl ?_
        refine Z.iload hX dX2_fillMinor_33 rfl ?_
        refine Z.ishr hX dX2_fillMinor_35 ?_
        refine Z.iconst hX dX2_fillMinor_36 ?_
        refine Z.iand hX dX2_fillMinor_37 ?_
        refine Z.vali (y := zI b) eb ?_
        refine Z.iconst hX dX2_fillMinor_38 ?_
        refine Z.icmp_ne hX 77 dX2_fillMinor_39 (by decide) ⟨by omega, by omega⟩ ⟨by omega, by omega⟩ ?_ ?_
        · intro c6
          refine Z.iinc (lv' := [(6, .int (zI (cn + -1))), (5, .int (zI sg)), (4, .int (zI (bcn - 1))), (3, .ref (pl (20 + (col : Int).toNat))), (2, .int (zI size)), (1, .int (zI col)), (0, .ref (h 4))]) hX dX2_fillMinor_77 rfl (by decide) rfl ?_
          refine Z.goto hX 27 dX2_fillMinor_80 (by decide) ?_
          refine Z.pick [0, 1, 2, 3, 4, 5, 6] rfl ?_
          exact ih_27 _ _ _ _ (by omega) (by omega) (by omega) hM
        · intro c6
          have htc := (eb2 (by omega)).2
          refine Z.aload_n hX dX2_fillMinor_42 rfl rfl ?_
          refine Z.aload_n hX dX2_fillMinor_43 rfl rfl ?_
          refine Z.getf hX 2 4 2 dX2_fillMinor_44 rfl rfl inX2 (by decide) fl_X2_20 rfl rfl ?_
          refine Z.iload hX dX2_fillMinor_47 rfl ?_
          refine Z.iconst hX dX2_fillMinor_49 ?_
          refine Z.imul hX dX2_fillMinor_50 ?_
          refine Z.iload hX dX2_fillMinor_51 rfl ?_
          refine Z.iadd hX dX2_fillMinor_53 ?_
          refine Z.aaload hX 16 4 dX2_fillMinor_54 rfl rfl rfl (by omega) (by omega) (by decide) rfl ?_
          refine Z.aload_n hX dX2_fillMinor_55 rfl rfl ?_
          refine Z.getf hX 2 4 3 dX2_fillMinor_56 rfl rfl inX2 (by decide) fl_X2_23 rfl rfl ?_
          refine Z.iload_n hX dX2_fillMinor_59 rfl rfl ?_
          refine Z.iconst hX dX2_fillMinor_60 ?_
          refine Z.iload hX dX2_fillMinor_61 rfl ?_
          refine Z.ishl hX dX2_fillMinor_63 ?_
          refine Z.ixor hX dX2_fillMinor_64 ?_
          refine Z.vali (y := zI t) (eb2 (by omega)).1 ?_
          refine Z.aaload hX 17 4 dX2_fillMinor_65 rfl rfl rfl (by omega) (by omega) (by decide) rfl ?_
          refine Z.iload hX dX2_fillMinor_66 rfl ?_
          refine Z.i2l hX dX2_fillMinor_68 ⟨by omega, by omega⟩ ?_
          refine Z.callVfv (As := [.ref (pl (10 + tri (((bcn - 1) * 4) + cn : Int).toNat)), .ref (pl (20 + (t : Int).toNat)), .long (zL sg)]) (rest := []) hX 3 (24 + (20 + (col : Int).toNat)) rfl (cW_pl (by omega)) (ct_X3_addProduct l D ce h pl ar G L BB MM ((20 + (col : Int).toNat)) ((10 + tri (((bcn - 1) * 4) + cn : Int).toNat)) ((20 + (t : Int).toNat)) (zL sg) (by omega) hM (by have := tri_lt ((bcn - 1) * 4 + cn : Int).toNat; omega) (by omega)) mc_X3_addProduct ml_X2_70 im_X3_addProduct se_X3_addProduct ini_X3 nd_X3_addProduct ⟨Nat.le_of_ble_eq_true rfl, Nat.le_of_ble_eq_true rfl⟩ ⟨rfl, rfl⟩ ⟨Nat.le_refl _, Nat.le_refl _⟩ rfl (Nat.le_of_ble_eq_true rfl) dX2_fillMinor_69 ?_
          rintro w1 ⟨B28, J29, hw_, ha1, ha2, ha3⟩
          subst hw_
          refine Z.iload hX dX2_fillMinor_72 rfl ?_
          refine Z.ineg hX dX2_fillMinor_74 ?_
          refine Z.istore (lv' := [(5, .int (zI (-sg))), (6, .int (zI cn)), (4, .int (zI (bcn - 1))), (3, .ref (pl (20 + (col : Int).toNat))), (2, .int (zI size)), (1, .int (zI col)), (0, .ref (h 4))]) hX dX2_fillMinor_75 (by decide) rfl ?_
          refine Z.iinc (lv' := [(6, .int (zI (cn + -1))), (5, .int (zI (-sg))), (4, .int (zI (bcn - 1))), (3, .ref (pl (20 + (col : Int).toNat))), (2, .int (zI size)), (1, .int (zI col)), (0, .ref (h 4))]) hX dX2_fillMinor_77 rfl (by decide) rfl ?_
          refine Z.goto hX 27 dX2_fillMinor_80 (by decide) ?_
          refine Z.pick [0, 1, 2, 3, 4, 5, 6] rfl ?_
          exact ih_27 _ _ _ _ (by omega) (by omega) (by omega) ha3
  refine Z.pick [0, 1, 2, 3, 6, 5, 4] rfl ?_
  exact key_27 _ _ _ _ _ (Nat.lt_succ_self _) (by omega) (by omega) hp3

theorem dX2_resultant_0 : decode cX2_resultant 0 = .ok (.iconst 0, 1) := by decide +kernel
theorem dX2_resultant_1 : decode cX2_resultant 1 = .ok (.istore_n 2, 1) := by decide +kernel
theorem dX2_resultant_2 : decode cX2_resultant 2 = .ok (.iload_n 2, 1) := by decide +kernel
theorem dX2_resultant_3 : decode cX2_resultant 3 = .ok (.iload_n 1, 1) := by decide +kernel
theorem dX2_resultant_4 : decode cX2_resultant 4 = .ok (.if_icmp .ge 29, 3) := by decide +kernel
theorem dX2_resultant_7 : decode cX2_resultant 7 = .ok (.iload_n 2, 1) := by decide +kernel
theorem dX2_resultant_8 : decode cX2_resultant 8 = .ok (.istore_n 3, 1) := by decide +kernel
theorem dX2_resultant_9 : decode cX2_resultant 9 = .ok (.iload_n 3, 1) := by decide +kernel
theorem dX2_resultant_10 : decode cX2_resultant 10 = .ok (.iload_n 1, 1) := by decide +kernel
theorem dX2_resultant_11 : decode cX2_resultant 11 = .ok (.if_icmp .ge 16, 3) := by decide +kernel
theorem dX2_resultant_14 : decode cX2_resultant 14 = .ok (.aload_n 0, 1) := by decide +kernel
theorem dX2_resultant_15 : decode cX2_resultant 15 = .ok (.iload_n 2, 1) := by decide +kernel
theorem dX2_resultant_16 : decode cX2_resultant 16 = .ok (.iload_n 3, 1) := by decide +kernel
theorem dX2_resultant_17 : decode cX2_resultant 17 = .ok (.iload_n 1, 1) := by decide +kernel
theorem dX2_resultant_18 : decode cX2_resultant 18 = .ok (.invokevirtual 49, 3) := by decide +kernel
theorem dX2_resultant_21 : decode cX2_resultant 21 = .ok (.iinc 3 1, 3) := by decide +kernel
theorem dX2_resultant_24 : decode cX2_resultant 24 = .ok (.goto (-15), 3) := by decide +kernel
theorem dX2_resultant_27 : decode cX2_resultant 27 = .ok (.iinc 2 1, 3) := by decide +kernel
theorem dX2_resultant_30 : decode cX2_resultant 30 = .ok (.goto (-28), 3) := by decide +kernel
theorem dX2_resultant_33 : decode cX2_resultant 33 = .ok (.aload_n 0, 1) := by decide +kernel
theorem dX2_resultant_34 : decode cX2_resultant 34 = .ok (.getfield 23, 3) := by decide +kernel
theorem dX2_resultant_37 : decode cX2_resultant 37 = .ok (.iconst 0, 1) := by decide +kernel
theorem dX2_resultant_38 : decode cX2_resultant 38 = .ok (.aaload, 1) := by decide +kernel
theorem dX2_resultant_39 : decode cX2_resultant 39 = .ok (.invokevirtual 53, 3) := by decide +kernel
theorem dX2_resultant_42 : decode cX2_resultant 42 = .ok (.aload_n 0, 1) := by decide +kernel
theorem dX2_resultant_43 : decode cX2_resultant 43 = .ok (.getfield 23, 3) := by decide +kernel
theorem dX2_resultant_46 : decode cX2_resultant 46 = .ok (.iconst 0, 1) := by decide +kernel
theorem dX2_resultant_47 : decode cX2_resultant 47 = .ok (.aaload, 1) := by decide +kernel
theorem dX2_resultant_48 : decode cX2_resultant 48 = .ok (.getfield 56, 3) := by decide +kernel
theorem dX2_resultant_51 : decode cX2_resultant 51 = .ok (.iconst 0, 1) := by decide +kernel
theorem dX2_resultant_52 : decode cX2_resultant 52 = .ok (.lconst 1, 1) := by decide +kernel
theorem dX2_resultant_53 : decode cX2_resultant 53 = .ok (.lastore, 1) := by decide +kernel
theorem dX2_resultant_54 : decode cX2_resultant 54 = .ok (.iconst 1, 1) := by decide +kernel
theorem dX2_resultant_55 : decode cX2_resultant 55 = .ok (.iload_n 1, 1) := by decide +kernel
theorem dX2_resultant_56 : decode cX2_resultant 56 = .ok (.ishl, 1) := by decide +kernel
theorem dX2_resultant_57 : decode cX2_resultant 57 = .ok (.iconst 1, 1) := by decide +kernel
theorem dX2_resultant_58 : decode cX2_resultant 58 = .ok (.isub, 1) := by decide +kernel
theorem dX2_resultant_59 : decode cX2_resultant 59 = .ok (.istore_n 2, 1) := by decide +kernel
theorem dX2_resultant_60 : decode cX2_resultant 60 = .ok (.iconst 1, 1) := by decide +kernel
theorem dX2_resultant_61 : decode cX2_resultant 61 = .ok (.istore_n 3, 1) := by decide +kernel
theorem dX2_resultant_62 : decode cX2_resultant 62 = .ok (.iload_n 3, 1) := by decide +kernel
theorem dX2_resultant_63 : decode cX2_resultant 63 = .ok (.iload_n 2, 1) := by decide +kernel
theorem dX2_resultant_64 : decode cX2_resultant 64 = .ok (.if_icmp .gt 15, 3) := by decide +kernel
theorem dX2_resultant_67 : decode cX2_resultant 67 = .ok (.aload_n 0, 1) := by decide +kernel
theorem dX2_resultant_68 : decode cX2_resultant 68 = .ok (.iload_n 3, 1) := by decide +kernel
theorem dX2_resultant_69 : decode cX2_resultant 69 = .ok (.iload_n 1, 1) := by decide +kernel
theorem dX2_resultant_70 : decode cX2_resultant 70 = .ok (.invokevirtual 60, 3) := by decide +kernel
theorem dX2_resultant_73 : decode cX2_resultant 73 = .ok (.iinc 3 1, 3) := by decide +kernel
theorem dX2_resultant_76 : decode cX2_resultant 76 = .ok (.goto (-14), 3) := by decide +kernel
theorem dX2_resultant_79 : decode cX2_resultant 79 = .ok (.aload_n 0, 1) := by decide +kernel
theorem dX2_resultant_80 : decode cX2_resultant 80 = .ok (.getfield 23, 3) := by decide +kernel
theorem dX2_resultant_83 : decode cX2_resultant 83 = .ok (.iload_n 2, 1) := by decide +kernel
theorem dX2_resultant_84 : decode cX2_resultant 84 = .ok (.aaload, 1) := by decide +kernel
theorem dX2_resultant_85 : decode cX2_resultant 85 = .ok (.areturn, 1) := by decide +kernel
set_option maxHeartbeats 4000000 in
set_option maxRecDepth 100000 in
theorem ct_X2_resultant (l : Launch) (D : va_G) (ce : Nat → ClassId) (h pl ar : Nat → Nat) (G : Nat → Int) (L : Nat → Nat → Int64) (B : Nat → Int) (J : Nat → Nat → Int64) (size : Int) (hB : BOK B) (hs : 1 ≤ size ∧ size ≤ 4) : Ct l yX2_resultant cX2_resultant 4 (some (.object "EliminateLoci$Plane")) { frames := 4, cells := 0, slots := 0, locals := 88 } 0 0 D (TY ce) [.ref (h 4), .int (zI size)] (cW ce h pl ar G L B J) (QR D (TY ce) (fun r w1 => ∃ k2 : Nat, ∃ B2 : Nat → Int, ∃ J2 : Nat → Nat → Int64, r = (pl k2) ∧ w1 = cW ce h pl ar G L B2 J2 ∧ (BOK B2) ∧ (k2 < 42 ∧ 20 ≤ k2 ∧ k2 < 36))) := by
  refine Ct.ofR (by decide) (Nat.le_of_ble_eq_true rfl) (Or.inl ⟨_, rfl⟩) ?_
  intro p e s m args below meth c A Q hX hnm hR
  refine Z.pick (lv' := [(0, .ref (h 4)), (1, .int (zI size))]) [0, 1] rfl ?_
  obtain ⟨T, hT, hT1, hT2⟩ := sh4 hs.1 hs.2
  refine Z.iconst hX dX2_resultant_0 ?_
  refine Z.istore_n (lv' := [(2, .int (zI 0)), (0, .ref (h 4)), (1, .int (zI size))]) hX dX2_resultant_1 rfl (by decide) rfl ?_
  have key_2 : ∀ (N : Nat), ∀ (i : Int) (BB : Nat → Int) (MM : Nat → Nat → Int64), (size - i).toNat < N → (hi : 0 ≤ i ∧ i ≤ size) → (hM : BOK BB) → Z p l e { frames := 4, cells := 0, slots := 0, locals := 88 } s m args below meth c D A 4 0 0 Q 2 [(2, .int (zI i)), (1, .int (zI size)), (0, .ref (h 4))] [] (cW ce h pl ar G L BB MM) := by
    intro N
    induction N with
    | zero => intro i BB MM hm; exact absurd hm (Nat.not_lt_zero _)
    | succ N ih_2 =>
      intro i BB MM hm hi hM
      refine Z.iload_n hX dX2_resultant_2 rfl rfl ?_
      refine Z.iload_n hX dX2_resultant_3 rfl rfl ?_
      refine Z.icmp_ge hX 33 dX2_resultant_4 (by decide) ⟨by omega, by omega⟩ ⟨by omega, by omega⟩ ?_ ?_
      · intro c1
        refine Z.aload_n hX dX2_resultant_33 rfl rfl ?_
        refine Z.getf hX 2 4 3 dX2_resultant_34 rfl rfl inX2 (by decide) fl_X2_23 rfl rfl ?_
        refine Z.iconst hX dX2_resultant_37 ?_
        refine Z.aaload hX 17 4 dX2_resultant_38 rfl rfl rfl (by omega) (by omega) (by decide) rfl ?_
        refine Z.callVfv (As := []) (rest := []) hX 3 (24 + (20 + 0)) rfl (cW_pl (by omega)) (ct_X3_erase l D ce h pl ar G L BB MM ((20 + 0)) (by omega) hM) mc_X3_erase ml_X2_53 im_X3_erase se_X3_erase ini_X3 nd_X3_erase ⟨Nat.le_of_ble_eq_true rfl, Nat.le_of_ble_eq_true rfl⟩ ⟨rfl, rfl⟩ ⟨Nat.le_refl _, Nat.le_refl _⟩ rfl (Nat.le_of_ble_eq_true rfl) dX2_resultant_39 ?_
        rintro w1 ⟨B23, J24, hw_, hp1, hp2, hp3, hp4⟩
        subst hw_
        refine Z.aload_n hX dX2_resultant_42 rfl rfl ?_
        refine Z.getf hX 2 4 3 dX2_resultant_43 rfl rfl inX2 (by decide) fl_X2_23 rfl rfl ?_
        refine Z.iconst hX dX2_resultant_46 ?_
        refine Z.aaload hX 17 4 dX2_resultant_47 rfl rfl rfl (by omega) (by omega) (by decide) rfl ?_
        refine Z.getf hX 3 (24 + (20 + 0)) 0 dX2_resultant_48 (cW_pl (by omega)) rfl inX3 (by decide) fl_X2_56 rfl rfl ?_
        refine Z.iconst hX dX2_resultant_51 ?_
        refine Z.lconst (v := 1) hX dX2_resultant_52 rfl ?_
        refine Z.lastore hX (66 + (20 + 0)) 1 dX2_resultant_53 (cW_ar (by omega)) rfl (by omega) (by omega) (by decide) ?_
        obtain ⟨J5, eJ5⟩ : ∃ J' : Nat → Nat → Int64, J' = va_up J24 ((20 + 0)) (vp_updL (J24 ((20 + 0))) (0 : Int).toNat (1)) := ⟨_, rfl⟩
        refine Z.toW (w' := cW ce h pl ar G L B23 J5) (by rw [eJ5]; exact cW_setJ (by omega)) ?_
        have gJ5 : J5 ((20 + 0)) = vp_updL (J24 ((20 + 0))) (0 : Int).toNat (1) := by rw [eJ5]; exact up_eq
        have fJ5 : ∀ j_, j_ ≠ (20 + 0) → J5 j_ = J24 j_ := fun j_ hj_ => by rw [eJ5]; exact up_ne hj_
        refine Z.iconst hX dX2_resultant_54 ?_
        refine Z.iload_n hX dX2_resultant_55 rfl rfl ?_
        refine Z.ishl hX dX2_resultant_56 ?_
        refine Z.vali (y := zI T) hT ?_
        refine Z.iconst hX dX2_resultant_57 ?_
        refine Z.isub hX dX2_resultant_58 ?_
        refine Z.istore_n (lv' := [(2, .int (zI (T - 1))), (1, .int (zI size)), (0, .ref (h 4))]) hX dX2_resultant_59 rfl (by decide) rfl ?_
        refine Z.iconst hX dX2_resultant_60 ?_
        refine Z.istore_n (lv' := [(3, .int (zI 1)), (2, .int (zI (T - 1))), (1, .int (zI size)), (0, .ref (h 4))]) hX dX2_resultant_61 rfl (by decide) rfl ?_
        have key_62 : ∀ (N : Nat), ∀ (q : Int) (BB : Nat → Int) (MM : Nat → Nat → Int64), (T - q).toNat < N → (hq : 1 ≤ q ∧ q ≤ T) → (hM : BOK BB) → Z p l e { frames := 4, cells := 0, slots := 0, locals := 88 } s m args below meth c D A 4 0 0 Q 62 [(3, .int (zI q)), (2, .int (zI (T - 1))), (1, .int (zI size)), (0, .ref (h 4))] [] (cW ce h pl ar G L BB MM) := by
          intro N
          induction N with
          | zero => intro q BB MM hm; exact absurd hm (Nat.not_lt_zero _)
          | succ N ih_62 =>
            intro q BB MM hm hq hM
            refine Z.iload_n hX dX2_resultant_62 rfl rfl ?_
            refine Z.iload_n hX dX2_resultant_63 rfl rfl ?_
            refine Z.icmp_gt hX 79 dX2_resultant_64 (by decide) ⟨by omega, by omega⟩ ⟨by omega, by omega⟩ ?_ ?_
            · intro c6
              refine Z.aload_n hX dX2_resultant_79 rfl rfl ?_
              refine Z.getf hX 2 4 3 dX2_resultant_80 rfl rfl inX2 (by decide) fl_X2_23 rfl rfl ?_
              refine Z.iload_n hX dX2_resultant_83 rfl rfl ?_
              refine Z.aaload hX 17 4 dX2_resultant_84 rfl rfl rfl (by omega) (by omega) (by decide) rfl ?_
              exact hR _ _ _ _ dX2_resultant_85 ⟨_, BB, MM, rfl, rfl, hM, (by omega)⟩
            · intro c6
              refine Z.aload_n hX dX2_resultant_67 rfl rfl ?_
              refine Z.iload_n hX dX2_resultant_68 rfl rfl ?_
              refine Z.iload_n hX dX2_resultant_69 rfl rfl ?_
              refine Z.callVfv (As := [.int (zI q), .int (zI size)]) (rest := []) hX 2 4 rfl rfl (ct_X2_fillMinor l D ce h pl ar G L BB MM q size hM (by omega) hs) mc_X2_fillMinor ml_X2_60 im_X2_fillMinor se_X2_fillMinor ini_X2 nd_X2_fillMinor ⟨Nat.le_of_ble_eq_true rfl, Nat.le_of_ble_eq_true rfl⟩ ⟨rfl, rfl⟩ ⟨Nat.le_refl _, Nat.le_refl _⟩ rfl (Nat.le_of_ble_eq_true rfl) dX2_resultant_70 ?_
              rintro w1 ⟨B28, J29, hw_, hg1⟩
              subst hw_
              refine Z.iinc (lv' := [(3, .int (zI (q + 1))), (2, .int (zI (T - 1))), (1, .int (zI size)), (0, .ref (h 4))]) hX dX2_resultant_73 rfl (by decide) rfl ?_
              refine Z.goto hX 62 dX2_resultant_76 (by decide) ?_
              refine Z.pick [0, 1, 2, 3] rfl ?_
              exact ih_62 _ _ _ (by omega) (by omega) hg1
        refine Z.pick [0, 1, 2, 3] rfl ?_
        exact key_62 _ _ _ _ (Nat.lt_succ_self _) (by omega) hp3
      · intro c1
        refine Z.iload_n hX dX2_resultant_7 rfl rfl ?_
        refine Z.istore_n (lv' := [(3, .int (zI i)), (2, .int (zI i)), (1, .int (zI size)), (0, .ref (h 4))]) hX dX2_resultant_8 rfl (by decide) rfl ?_
        have key_9 : ∀ (N : Nat), ∀ (j : Int) (BB : Nat → Int) (MM : Nat → Nat → Int64), (size - j).toNat < N → (hj : i ≤ j ∧ j ≤ size) → (hM : BOK BB) → Z p l e { frames := 4, cells := 0, slots := 0, locals := 88 } s m args below meth c D A 4 0 0 Q 9 [(3, .int (zI j)), (2, .int (zI i)), (1, .int (zI size)), (0, .ref (h 4))] [] (cW ce h pl ar G L BB MM) := by
          intro N
          induction N with
          | zero => intro j BB MM hm; exact absurd hm (Nat.not_lt_zero _)
          | succ N ih_9 =>
            intro j BB MM hm hj hM
            refine Z.iload_n hX dX2_resultant_9 rfl rfl ?_
            refine Z.iload_n hX dX2_resultant_10 rfl rfl ?_
            refine Z.icmp_ge hX 27 dX2_resultant_11 (by decide) ⟨by omega, by omega⟩ ⟨by omega, by omega⟩ ?_ ?_
            · intro c10
              refine Z.iinc (lv' := [(2, .int (zI (i + 1))), (3, .int (zI j)), (1, .int (zI size)), (0, .ref (h 4))]) hX dX2_resultant_27 rfl (by decide) rfl ?_
              refine Z.goto hX 2 dX2_resultant_30 (by decide) ?_
              refine Z.pick [0, 2, 3] rfl ?_
              exact ih_2 _ _ _ (by omega) (by omega) hM
            · intro c10
              refine Z.aload_n hX dX2_resultant_14 rfl rfl ?_
              refine Z.iload_n hX dX2_resultant_15 rfl rfl ?_
              refine Z.iload_n hX dX2_resultant_16 rfl rfl ?_
              refine Z.iload_n hX dX2_resultant_17 rfl rfl ?_
              refine Z.callVfv (As := [.int (zI i), .int (zI j), .int (zI size)]) (rest := []) hX 2 4 rfl rfl (ct_X2_fillEntry l D ce h pl ar G L BB MM i j size hM (by omega)) mc_X2_fillEntry ml_X2_49 im_X2_fillEntry se_X2_fillEntry ini_X2 nd_X2_fillEntry ⟨Nat.le_of_ble_eq_true rfl, Nat.le_of_ble_eq_true rfl⟩ ⟨rfl, rfl⟩ ⟨Nat.le_refl _, Nat.le_refl _⟩ rfl (Nat.le_of_ble_eq_true rfl) dX2_resultant_18 ?_
              rintro w1 ⟨B212, J213, hw_, hf1⟩
              subst hw_
              refine Z.iinc (lv' := [(3, .int (zI (j + 1))), (2, .int (zI i)), (1, .int (zI size)), (0, .ref (h 4))]) hX dX2_resultant_21 rfl (by decide) rfl ?_
              refine Z.goto hX 9 dX2_resultant_24 (by decide) ?_
              refine Z.pick [0, 1, 2, 3] rfl ?_
              exact ih_9 _ _ _ (by omega) (by omega) hf1
        refine Z.pick [0, 1, 2, 3] rfl ?_
        exact key_9 _ _ _ _ (Nat.lt_succ_self _) (by omega) hM
  refine Z.pick [0, 2, 1] rfl ?_
  exact key_2 _ _ _ _ (Nat.lt_succ_self _) (by omega) hB
end
section
theorem sr_div {b k : Int} (hb : 0 ≤ b ∧ b ≤ 6) (hk : 1 ≤ k ∧ k ≤ 6) : 0 ≤ b / k ∧ b / k ≤ b ∧ b / k * k ≤ b := by
  have h1 : 0 ≤ b / k := Int.ediv_nonneg hb.1 (by omega)
  have h2 : b / k * k ≤ b := Int.ediv_mul_le b (by omega)
  have h3 : b / k * 1 ≤ b / k * k := Int.mul_le_mul_of_nonneg_left hk.1 h1
  exact ⟨h1, by omega, h2⟩
theorem sr_mod {a k : Int} (hk : 1 ≤ k ∧ k ≤ 6) : zR (a % k) := ⟨by have := Int.emod_nonneg a (show k ≠ 0 by omega); omega, by have := Int.emod_lt_of_pos a (show 0 < k by omega); omega⟩
theorem sr_mono {a b k : Int} (h : a ≤ b) (h0 : 0 ≤ a) (hk : 1 ≤ k) : a / k ≤ b / k := Int.ediv_le_ediv (by omega) h
/-- places of the next terms of a power -/
theorem cr_b {B k f d j : Int} (hk : 2 ≤ k ∧ k ≤ 6) (hB : 0 ≤ B ∧ B * k ≤ 6) (hf : 0 ≤ f ∧ f ≤ B) (hd : 0 ≤ d ∧ d ≤ B) (hj : 0 ≤ j ∧ j ≤ d) : 0 ≤ d + (k - 1) * B ∧ d + (k - 1) * B ≤ 6 ∧ 0 ≤ j + (k - 1) * f ∧ j + (k - 1) * f ≤ d + (k - 1) * B := by
  have h1 : (k - 1) * B + B = B * k := by rw [Int.sub_mul, Int.one_mul, Int.mul_comm k]; omega
  have h2 : 0 ≤ (k - 1) * B := Int.mul_nonneg (by omega) hB.1
  have h3 : 0 ≤ (k - 1) * f := Int.mul_nonneg (by omega) hf.1
  have h4 : (k - 1) * f ≤ (k - 1) * B := Int.mul_le_mul_of_nonneg_left hf.2 (by omega)
  omega
end
section
theorem dX4_raiseRoot_0 : decode cX4_raiseRoot 0 = .ok (.aload_n 0, 1) := by decide +kernel
theorem dX4_raiseRoot_1 : decode cX4_raiseRoot 1 = .ok (.getfield 19, 3) := by decide +kernel
theorem dX4_raiseRoot_4 : decode cX4_raiseRoot 4 = .ok (.aload_n 0, 1) := by decide +kernel
theorem dX4_raiseRoot_5 : decode cX4_raiseRoot 5 = .ok (.getfield 16, 3) := by decide +kernel
theorem dX4_raiseRoot_8 : decode cX4_raiseRoot 8 = .ok (.invokevirtual 25, 3) := by decide +kernel
theorem dX4_raiseRoot_11 : decode cX4_raiseRoot 11 = .ok (.iconst 1, 1) := by decide +kernel
theorem dX4_raiseRoot_12 : decode cX4_raiseRoot 12 = .ok (.istore_n 2, 1) := by decide +kernel
theorem dX4_raiseRoot_13 : decode cX4_raiseRoot 13 = .ok (.iload_n 2, 1) := by decide +kernel
theorem dX4_raiseRoot_14 : decode cX4_raiseRoot 14 = .ok (.iload_n 1, 1) := by decide +kernel
theorem dX4_raiseRoot_15 : decode cX4_raiseRoot 15 = .ok (.if_icmp .ge 43, 3) := by decide +kernel
theorem dX4_raiseRoot_18 : decode cX4_raiseRoot 18 = .ok (.aload_n 0, 1) := by decide +kernel
theorem dX4_raiseRoot_19 : decode cX4_raiseRoot 19 = .ok (.getfield 22, 3) := by decide +kernel
theorem dX4_raiseRoot_22 : decode cX4_raiseRoot 22 = .ok (.invokevirtual 71, 3) := by decide +kernel
theorem dX4_raiseRoot_25 : decode cX4_raiseRoot 25 = .ok (.aload_n 0, 1) := by decide +kernel
theorem dX4_raiseRoot_26 : decode cX4_raiseRoot 26 = .ok (.getfield 22, 3) := by decide +kernel
theorem dX4_raiseRoot_29 : decode cX4_raiseRoot 29 = .ok (.aload_n 0, 1) := by decide +kernel
theorem dX4_raiseRoot_30 : decode cX4_raiseRoot 30 = .ok (.getfield 19, 3) := by decide +kernel
theorem dX4_raiseRoot_33 : decode cX4_raiseRoot 33 = .ok (.aload_n 0, 1) := by decide +kernel
theorem dX4_raiseRoot_34 : decode cX4_raiseRoot 34 = .ok (.getfield 16, 3) := by decide +kernel
theorem dX4_raiseRoot_37 : decode cX4_raiseRoot 37 = .ok (.lconst 1, 1) := by decide +kernel
theorem dX4_raiseRoot_38 : decode cX4_raiseRoot 38 = .ok (.invokevirtual 85, 3) := by decide +kernel
theorem dX4_raiseRoot_41 : decode cX4_raiseRoot 41 = .ok (.aload_n 0, 1) := by decide +kernel
theorem dX4_raiseRoot_42 : decode cX4_raiseRoot 42 = .ok (.getfield 19, 3) := by decide +kernel
theorem dX4_raiseRoot_45 : decode cX4_raiseRoot 45 = .ok (.aload_n 0, 1) := by decide +kernel
theorem dX4_raiseRoot_46 : decode cX4_raiseRoot 46 = .ok (.getfield 22, 3) := by decide +kernel
theorem dX4_raiseRoot_49 : decode cX4_raiseRoot 49 = .ok (.invokevirtual 25, 3) := by decide +kernel
theorem dX4_raiseRoot_52 : decode cX4_raiseRoot 52 = .ok (.iinc 2 1, 3) := by decide +kernel
theorem dX4_raiseRoot_55 : decode cX4_raiseRoot 55 = .ok (.goto (-42), 3) := by decide +kernel
theorem dX4_raiseRoot_58 : decode cX4_raiseRoot 58 = .ok (.return_, 1) := by decide +kernel
set_option maxHeartbeats 4000000 in
set_option maxRecDepth 100000 in
theorem ct_X4_raiseRoot (l : Launch) (D : va_G) (ce : Nat → ClassId) (h pl ar : Nat → Nat) (G : Nat → Int) (L : Nat → Nat → Int64) (B : Nat → Int) (J : Nat → Nat → Int64) (pw : Int) (hB : BOK B) (hp : 1 ≤ pw ∧ pw ≤ 6) : Ct l yX4_raiseRoot cX4_raiseRoot 3 none { frames := 2, cells := 0, slots := 0, locals := 61 } 0 0 D (TY ce) [.ref (h 5), .int (zI pw)] (cW ce h pl ar G L B J) (QV D (TY ce) (fun w1 => ∃ B2 : Nat → Int, ∃ J2 : Nat → Nat → Int64, w1 = cW ce h pl ar G L B2 J2 ∧ (BOK B2) ∧ (∀ k, k ≠ 38 → k ≠ 39 → B2 k = B k))) := by
  refine Ct.ofV (by decide) (Nat.le_of_ble_eq_true rfl) ?_
  intro p e s m args below meth c A Q hX hnm hR
  refine Z.pick (lv' := [(0, .ref (h 5)), (1, .int (zI pw))]) [0, 1] rfl ?_
  refine Z.aload_n hX dX4_raiseRoot_0 rfl rfl ?_
  refine Z.getf hX 4 5 2 dX4_raiseRoot_1 rfl rfl inX4 (by decide) fl_X4_19 rfl rfl ?_
  refine Z.aload_n hX dX4_raiseRoot_4 rfl rfl ?_
  refine Z.getf hX 4 5 1 dX4_raiseRoot_5 rfl rfl inX4 (by decide) fl_X4_16 rfl rfl ?_
  refine Z.callVfv (As := [.ref (pl 37)]) (rest := []) hX 3 (24 + 38) rfl (cW_pl (by decide)) (ct_X3_copy l D ce h pl ar G L B J 38 37 (by decide) hB (by decide)) mc_X3_copy ml_X4_25 im_X3_copy se_X3_copy ini_X3 nd_X3_copy ⟨Nat.le_of_ble_eq_true rfl, Nat.le_of_ble_eq_true rfl⟩ ⟨rfl, rfl⟩ ⟨Nat.le_refl _, Nat.le_refl _⟩ rfl (Nat.le_of_ble_eq_true rfl) dX4_raiseRoot_8 ?_
  rintro w1 ⟨B22, J23, hw_, a1, a2, a3, a4⟩
  subst hw_
  refine Z.iconst hX dX4_raiseRoot_11 ?_
  refine Z.istore_n (lv' := [(2, .int (zI 1)), (0, .ref (h 5)), (1, .int (zI pw))]) hX dX4_raiseRoot_12 rfl (by decide) rfl ?_
  have key_13 : ∀ (N : Nat), ∀ (i : Int) (BB : Nat → Int) (MM : Nat → Nat → Int64), (pw - i).toNat < N → (hi : 1 ≤ i ∧ i ≤ pw) → (hM : BOK BB) → (hf : ∀ k, k ≠ 38 → k ≠ 39 → BB k = B k) → Z p l e { frames := 2, cells := 0, slots := 0, locals := 61 } s m args below meth c D A 3 0 0 Q 13 [(2, .int (zI i)), (1, .int (zI pw)), (0, .ref (h 5))] [] (cW ce h pl ar G L BB MM) := by
    intro N
    induction N with
    | zero => intro i BB MM hm; exact absurd hm (Nat.not_lt_zero _)
    | succ N ih_13 =>
      intro i BB MM hm hi hM hf
      refine Z.iload_n hX dX4_raiseRoot_13 rfl rfl ?_
      refine Z.iload_n hX dX4_raiseRoot_14 rfl rfl ?_
      refine Z.icmp_ge hX 58 dX4_raiseRoot_15 (by decide) ⟨by omega, by omega⟩ ⟨by omega, by omega⟩ ?_ ?_
      · intro c4
        exact hR _ _ _ dX4_raiseRoot_58 ⟨BB, MM, rfl, hM, hf⟩
      · intro c4
        refine Z.aload_n hX dX4_raiseRoot_18 rfl rfl ?_
        refine Z.getf hX 4 5 3 dX4_raiseRoot_19 rfl rfl inX4 (by decide) fl_X4_22 rfl rfl ?_
        refine Z.callVfv (As := []) (rest := []) hX 3 (24 + 39) rfl (cW_pl (by decide)) (ct_X3_erase l D ce h pl ar G L BB MM 39 (by decide) hM) mc_X3_erase ml_X4_71 im_X3_erase se_X3_erase ini_X3 nd_X3_erase ⟨Nat.le_of_ble_eq_true rfl, Nat.le_of_ble_eq_true rfl⟩ ⟨rfl, rfl⟩ ⟨Nat.le_refl _, Nat.le_refl _⟩ rfl (Nat.le_of_ble_eq_true rfl) dX4_raiseRoot_22 ?_
        rintro w1 ⟨B26, J27, hw_, b1, b2, b3, b4⟩
        subst hw_
        refine Z.aload_n hX dX4_raiseRoot_25 rfl rfl ?_
        refine Z.getf hX 4 5 3 dX4_raiseRoot_26 rfl rfl inX4 (by decide) fl_X4_22 rfl rfl ?_
        refine Z.aload_n hX dX4_raiseRoot_29 rfl rfl ?_
        refine Z.getf hX 4 5 2 dX4_raiseRoot_30 rfl rfl inX4 (by decide) fl_X4_19 rfl rfl ?_
        refine Z.aload_n hX dX4_raiseRoot_33 rfl rfl ?_
        refine Z.getf hX 4 5 1 dX4_raiseRoot_34 rfl rfl inX4 (by decide) fl_X4_16 rfl rfl ?_
        refine Z.lconst (v := 1) hX dX4_raiseRoot_37 rfl ?_
        refine Z.callVfv (As := [.ref (pl 38), .ref (pl 37), .long 1]) (rest := []) hX 3 (24 + 39) rfl (cW_pl (by decide)) (ct_X3_addProduct l D ce h pl ar G L B26 J27 39 38 37 1 (by decide) b3 (by decide) (by decide)) mc_X3_addProduct ml_X4_85 im_X3_addProduct se_X3_addProduct ini_X3 nd_X3_addProduct ⟨Nat.le_of_ble_eq_true rfl, Nat.le_of_ble_eq_true rfl⟩ ⟨rfl, rfl⟩ ⟨Nat.le_refl _, Nat.le_refl _⟩ rfl (Nat.le_of_ble_eq_true rfl) dX4_raiseRoot_38 ?_
        rintro w1 ⟨B29, J210, hw_, c1, c2, c3⟩
        subst hw_
        refine Z.aload_n hX dX4_raiseRoot_41 rfl rfl ?_
        refine Z.getf hX 4 5 2 dX4_raiseRoot_42 rfl rfl inX4 (by decide) fl_X4_19 rfl rfl ?_
        refine Z.aload_n hX dX4_raiseRoot_45 rfl rfl ?_
        refine Z.getf hX 4 5 3 dX4_raiseRoot_46 rfl rfl inX4 (by decide) fl_X4_22 rfl rfl ?_
        refine Z.callVfv (As := [.ref (pl 39)]) (rest := []) hX 3 (24 + 38) rfl (cW_pl (by decide)) (ct_X3_copy l D ce h pl ar G L B29 J210 38 39 (by decide) c3 (by decide)) mc_X3_copy ml_X4_25 im_X3_copy se_X3_copy ini_X3 nd_X3_copy ⟨Nat.le_of_ble_eq_true rfl, Nat.le_of_ble_eq_true rfl⟩ ⟨rfl, rfl⟩ ⟨Nat.le_refl _, Nat.le_refl _⟩ rfl (Nat.le_of_ble_eq_true rfl) dX4_raiseRoot_49 ?_
        rintro w1 ⟨B212, J213, hw_, d1, d2, d3, d4⟩
        subst hw_
        refine Z.iinc (lv' := [(2, .int (zI (i + 1))), (1, .int (zI pw)), (0, .ref (h 5))]) hX dX4_raiseRoot_52 rfl (by decide) rfl ?_
        refine Z.goto hX 13 dX4_raiseRoot_55 (by decide) ?_
        refine Z.pick [0, 1, 2] rfl ?_
        exact ih_13 _ _ _ (by omega) (by omega) d3 (fun j_ h_38 h_39 => ((d1 j_ h_38).trans ((c1 j_ h_39).trans ((b1 j_ h_39).trans (hf j_ h_38 h_39)))))
  refine Z.pick [0, 2, 1] rfl ?_
  exact key_13 _ _ _ _ (Nat.lt_succ_self _) (by omega) a3 (fun j_ h_38 h_39 => ((a1 j_ h_38).trans rfl))

theorem dX4_startRoot_0 : decode cX4_startRoot 0 = .ok (.aload_n 0, 1) := by decide +kernel
theorem dX4_startRoot_1 : decode cX4_startRoot 1 = .ok (.getfield 10, 3) := by decide +kernel
theorem dX4_startRoot_4 : decode cX4_startRoot 4 = .ok (.invokevirtual 53, 3) := by decide +kernel
theorem dX4_startRoot_7 : decode cX4_startRoot 7 = .ok (.istore_n 2, 1) := by decide +kernel
theorem dX4_startRoot_8 : decode cX4_startRoot 8 = .ok (.iload_n 1, 1) := by decide +kernel
theorem dX4_startRoot_9 : decode cX4_startRoot 9 = .ok (.iconst 1, 1) := by decide +kernel
theorem dX4_startRoot_10 : decode cX4_startRoot 10 = .ok (.if_icmp .lt 25, 3) := by decide +kernel
theorem dX4_startRoot_13 : decode cX4_startRoot 13 = .ok (.iload_n 2, 1) := by decide +kernel
theorem dX4_startRoot_14 : decode cX4_startRoot 14 = .ok (.ifCond .lt 21, 3) := by decide +kernel
theorem dX4_startRoot_17 : decode cX4_startRoot 17 = .ok (.aload_n 0, 1) := by decide +kernel
theorem dX4_startRoot_18 : decode cX4_startRoot 18 = .ok (.getfield 10, 3) := by decide +kernel
theorem dX4_startRoot_21 : decode cX4_startRoot 21 = .ok (.getfield 32, 3) := by decide +kernel
theorem dX4_startRoot_24 : decode cX4_startRoot 24 = .ok (.iload_n 1, 1) := by decide +kernel
theorem dX4_startRoot_25 : decode cX4_startRoot 25 = .ok (.irem, 1) := by decide +kernel
theorem dX4_startRoot_26 : decode cX4_startRoot 26 = .ok (.ifCond .ne 9, 3) := by decide +kernel
theorem dX4_startRoot_29 : decode cX4_startRoot 29 = .ok (.iload_n 2, 1) := by decide +kernel
theorem dX4_startRoot_30 : decode cX4_startRoot 30 = .ok (.iload_n 1, 1) := by decide +kernel
theorem dX4_startRoot_31 : decode cX4_startRoot 31 = .ok (.irem, 1) := by decide +kernel
theorem dX4_startRoot_32 : decode cX4_startRoot 32 = .ok (.ifCond .eq 5, 3) := by decide +kernel
theorem dX4_startRoot_35 : decode cX4_startRoot 35 = .ok (.iconst 0, 1) := by decide +kernel
theorem dX4_startRoot_36 : decode cX4_startRoot 36 = .ok (.ireturn, 1) := by decide +kernel
theorem dX4_startRoot_37 : decode cX4_startRoot 37 = .ok (.aload_n 0, 1) := by decide +kernel
theorem dX4_startRoot_38 : decode cX4_startRoot 38 = .ok (.getfield 10, 3) := by decide +kernel
theorem dX4_startRoot_41 : decode cX4_startRoot 41 = .ok (.getfield 57, 3) := by decide +kernel
theorem dX4_startRoot_44 : decode cX4_startRoot 44 = .ok (.aload_n 0, 1) := by decide +kernel
theorem dX4_startRoot_45 : decode cX4_startRoot 45 = .ok (.getfield 10, 3) := by decide +kernel
theorem dX4_startRoot_48 : decode cX4_startRoot 48 = .ok (.getfield 32, 3) := by decide +kernel
theorem dX4_startRoot_51 : decode cX4_startRoot 51 = .ok (.iload_n 2, 1) := by decide +kernel
theorem dX4_startRoot_52 : decode cX4_startRoot 52 = .ok (.invokestatic 61, 3) := by decide +kernel
theorem dX4_startRoot_55 : decode cX4_startRoot 55 = .ok (.laload, 1) := by decide +kernel
theorem dX4_startRoot_56 : decode cX4_startRoot 56 = .ok (.lstore_n 3, 1) := by decide +kernel
theorem dX4_startRoot_57 : decode cX4_startRoot 57 = .ok (.lload_n 3, 1) := by decide +kernel
theorem dX4_startRoot_58 : decode cX4_startRoot 58 = .ok (.iload_n 1, 1) := by decide +kernel
theorem dX4_startRoot_59 : decode cX4_startRoot 59 = .ok (.invokestatic 67, 3) := by decide +kernel
theorem dX4_startRoot_62 : decode cX4_startRoot 62 = .ok (.lstore 5, 2) := by decide +kernel
theorem dX4_startRoot_64 : decode cX4_startRoot 64 = .ok (.aload_n 0, 1) := by decide +kernel
theorem dX4_startRoot_65 : decode cX4_startRoot 65 = .ok (.getfield 16, 3) := by decide +kernel
theorem dX4_startRoot_68 : decode cX4_startRoot 68 = .ok (.invokevirtual 71, 3) := by decide +kernel
theorem dX4_startRoot_71 : decode cX4_startRoot 71 = .ok (.aload_n 0, 1) := by decide +kernel
theorem dX4_startRoot_72 : decode cX4_startRoot 72 = .ok (.getfield 16, 3) := by decide +kernel
theorem dX4_startRoot_75 : decode cX4_startRoot 75 = .ok (.aload_n 0, 1) := by decide +kernel
theorem dX4_startRoot_76 : decode cX4_startRoot 76 = .ok (.getfield 10, 3) := by decide +kernel
theorem dX4_startRoot_79 : decode cX4_startRoot 79 = .ok (.getfield 32, 3) := by decide +kernel
theorem dX4_startRoot_82 : decode cX4_startRoot 82 = .ok (.iload_n 1, 1) := by decide +kernel
theorem dX4_startRoot_83 : decode cX4_startRoot 83 = .ok (.idiv, 1) := by decide +kernel
theorem dX4_startRoot_84 : decode cX4_startRoot 84 = .ok (.putfield 32, 3) := by decide +kernel
theorem dX4_startRoot_87 : decode cX4_startRoot 87 = .ok (.aload_n 0, 1) := by decide +kernel
theorem dX4_startRoot_88 : decode cX4_startRoot 88 = .ok (.getfield 16, 3) := by decide +kernel
theorem dX4_startRoot_91 : decode cX4_startRoot 91 = .ok (.getfield 57, 3) := by decide +kernel
theorem dX4_startRoot_94 : decode cX4_startRoot 94 = .ok (.aload_n 0, 1) := by decide +kernel
theorem dX4_startRoot_95 : decode cX4_startRoot 95 = .ok (.getfield 16, 3) := by decide +kernel
theorem dX4_startRoot_98 : decode cX4_startRoot 98 = .ok (.getfield 32, 3) := by decide +kernel
theorem dX4_startRoot_101 : decode cX4_startRoot 101 = .ok (.iload_n 2, 1) := by decide +kernel
theorem dX4_startRoot_102 : decode cX4_startRoot 102 = .ok (.iload_n 1, 1) := by decide +kernel
theorem dX4_startRoot_103 : decode cX4_startRoot 103 = .ok (.idiv, 1) := by decide +kernel
theorem dX4_startRoot_104 : decode cX4_startRoot 104 = .ok (.invokestatic 61, 3) := by decide +kernel
theorem dX4_startRoot_107 : decode cX4_startRoot 107 = .ok (.lload 5, 2) := by decide +kernel
theorem dX4_startRoot_109 : decode cX4_startRoot 109 = .ok (.lastore, 1) := by decide +kernel
theorem dX4_startRoot_110 : decode cX4_startRoot 110 = .ok (.lload 5, 2) := by decide +kernel
theorem dX4_startRoot_112 : decode cX4_startRoot 112 = .ok (.iload_n 1, 1) := by decide +kernel
theorem dX4_startRoot_113 : decode cX4_startRoot 113 = .ok (.invokestatic 74, 3) := by decide +kernel
theorem dX4_startRoot_116 : decode cX4_startRoot 116 = .ok (.lload_n 3, 1) := by decide +kernel
theorem dX4_startRoot_117 : decode cX4_startRoot 117 = .ok (.lcmp, 1) := by decide +kernel
theorem dX4_startRoot_118 : decode cX4_startRoot 118 = .ok (.ifCond .ne 7, 3) := by decide +kernel
theorem dX4_startRoot_121 : decode cX4_startRoot 121 = .ok (.iconst 1, 1) := by decide +kernel
theorem dX4_startRoot_122 : decode cX4_startRoot 122 = .ok (.goto 4, 3) := by decide +kernel
theorem dX4_startRoot_125 : decode cX4_startRoot 125 = .ok (.iconst 0, 1) := by decide +kernel
theorem dX4_startRoot_126 : decode cX4_startRoot 126 = .ok (.ireturn, 1) := by decide +kernel
set_option maxHeartbeats 4000000 in
set_option maxRecDepth 100000 in
theorem ct_X4_startRoot (l : Launch) (D : va_G) (ce : Nat → ClassId) (h pl ar : Nat → Nat) (G : Nat → Int) (L : Nat → Nat → Int64) (B : Nat → Int) (J : Nat → Nat → Int64) (pw : Int) (hB : BOK B) (hp : 1 ≤ pw ∧ pw ≤ 6) : Ct l yX4_startRoot cX4_startRoot 7 (some .boolean) { frames := 2, cells := 0, slots := 0, locals := 54 } 0 0 D (TY ce) [.ref (h 5), .int (zI pw)] (cW ce h pl ar G L B J) (QI D (TY ce) (fun r w1 => ∃ z : Int, ∃ B2 : Nat → Int, ∃ J2 : Nat → Nat → Int64, r = zI z ∧ w1 = cW ce h pl ar G L B2 J2 ∧ (BOK B2) ∧ (∀ k, k ≠ 37 → B2 k = B k) ∧ (z = 0 ∨ (z = 1 ∧ B2 37 * pw ≤ 6)))) := by
  refine Ct.ofB (by decide) (Nat.le_of_ble_eq_true rfl) ?_
  intro p e s m args below meth c A Q hX hnm hR
  refine Z.pick (lv' := [(0, .ref (h 5)), (1, .int (zI pw))]) [0, 1] rfl ?_
  have hb36 := hB 36 (by decide)
  refine Z.aload_n hX dX4_startRoot_0 rfl rfl ?_
  refine Z.getf hX 4 5 0 dX4_startRoot_1 rfl rfl inX4 (by decide) fl_X4_10 rfl rfl ?_
  refine Z.callVfi (As := []) (rest := []) hX 3 (24 + 36) rfl (cW_pl (by decide)) (ct_X3_firstOfBound l D ce h pl ar G L B J 36 (by decide) hB) mc_X3_firstOfBound ml_X4_53 im_X3_firstOfBound se_X3_firstOfBound ini_X3 nd_X3_firstOfBound ⟨Nat.le_of_ble_eq_true rfl, Nat.le_of_ble_eq_true rfl⟩ ⟨rfl, rfl⟩ ⟨Nat.le_refl _, Nat.le_refl _⟩ rfl (Nat.le_of_ble_eq_true rfl) dX4_startRoot_4 ?_
  rintro r_1 w1 ⟨fb, hr_, hw_, hfb⟩
  subst hr_
  subst hw_
  refine Z.istore_n (lv' := [(2, .int (zI fb)), (0, .ref (h 5)), (1, .int (zI pw))]) hX dX4_startRoot_7 rfl (by decide) rfl ?_
  refine Z.iload_n hX dX4_startRoot_8 rfl rfl ?_
  refine Z.iconst hX dX4_startRoot_9 ?_
  refine Z.icmp_lt hX 35 dX4_startRoot_10 (by decide) ⟨by omega, by omega⟩ ⟨by omega, by omega⟩ ?_ ?_
  · intro c2
    refine Z.iconst hX dX4_startRoot_35 ?_
    exact hR _ _ _ _ dX4_startRoot_36 rfl ⟨0, B, J, rfl, rfl, hB, (fun _ _ => rfl), Or.inl rfl⟩
  · intro c2
    refine Z.iload_n hX dX4_startRoot_13 rfl rfl ?_
    refine Z.if_lt hX 35 dX4_startRoot_14 (by decide) ⟨by omega, by omega⟩ ?_ ?_
    · intro c3
      refine Z.iconst hX dX4_startRoot_35 ?_
      exact hR _ _ _ _ dX4_startRoot_36 rfl ⟨0, B, J, rfl, rfl, hB, (fun _ _ => rfl), Or.inl rfl⟩
    · intro c3
      refine Z.aload_n hX dX4_startRoot_17 rfl rfl ?_
      refine Z.getf hX 4 5 0 dX4_startRoot_18 rfl rfl inX4 (by decide) fl_X4_10 rfl rfl ?_
      refine Z.getf hX 3 (24 + 36) 1 dX4_startRoot_21 (cW_pl (by decide)) rfl inX3 (by decide) fl_X4_32 rfl rfl ?_
      refine Z.iload_n hX dX4_startRoot_24 rfl rfl ?_
      refine Z.irem hX dX4_startRoot_25 (by omega) (by omega) (by omega) (by omega) ?_
      refine Z.if_ne hX 35 dX4_startRoot_26 (by decide) (sr_mod hp) ?_ ?_
      · intro c4
        refine Z.iconst hX dX4_startRoot_35 ?_
        exact hR _ _ _ _ dX4_startRoot_36 rfl ⟨0, B, J, rfl, rfl, hB, (fun _ _ => rfl), Or.inl rfl⟩
      · intro c4
        refine Z.iload_n hX dX4_startRoot_29 rfl rfl ?_
        refine Z.iload_n hX dX4_startRoot_30 rfl rfl ?_
        refine Z.irem hX dX4_startRoot_31 (by omega) (by omega) (by omega) (by omega) ?_
        refine Z.if_eq hX 37 dX4_startRoot_32 (by decide) (sr_mod hp) ?_ ?_
        · intro c5
          refine Z.aload_n hX dX4_startRoot_37 rfl rfl ?_
          refine Z.getf hX 4 5 0 dX4_startRoot_38 rfl rfl inX4 (by decide) fl_X4_10 rfl rfl ?_
          refine Z.getf hX 3 (24 + 36) 0 dX4_startRoot_41 (cW_pl (by decide)) rfl inX3 (by decide) fl_X4_57 rfl rfl ?_
          refine Z.aload_n hX dX4_startRoot_44 rfl rfl ?_
          refine Z.getf hX 4 5 0 dX4_startRoot_45 rfl rfl inX4 (by decide) fl_X4_10 rfl rfl ?_
          refine Z.getf hX 3 (24 + 36) 1 dX4_startRoot_48 (cW_pl (by decide)) rfl inX3 (by decide) fl_X4_32 rfl rfl ?_
          refine Z.iload_n hX dX4_startRoot_51 rfl rfl ?_
          refine Z.callSNi (As := [.int (zI (B 36)), .int (zI fb)]) (rest := [.ref (ar 36)]) hX (ct_X6_slotOf l D ce (B 36) fb (by omega) (by omega)) mc_X6_slotOf ns_X4_61 st_X6_slotOf ini_X6 nd_X6_slotOf ⟨Nat.le_of_ble_eq_true rfl, Nat.le_of_ble_eq_true rfl⟩ ⟨rfl, rfl⟩ ⟨Nat.le_refl _, Nat.le_refl _⟩ rfl (Nat.le_of_ble_eq_true rfl) dX4_startRoot_52 ?_
          rintro r_6 w1 ⟨z7, hr_, hw_, hq8, hq9⟩
          subst hr_
          refine ⟨hw_, ?_⟩
          refine Z.laload hX (66 + 36) 1 dX4_startRoot_55 (cW_ar (by decide)) rfl (by omega) (by omega) (by decide) ?_
          refine Z.lstore_n (lv' := [(3, .long (J 36 (z7 : Int).toNat)), (2, .int (zI fb)), (0, .ref (h 5)), (1, .int (zI pw))]) hX dX4_startRoot_56 rfl (by decide) rfl ?_
          refine Z.lload_n hX dX4_startRoot_57 rfl rfl ?_
          refine Z.iload_n hX dX4_startRoot_58 rfl rfl ?_
          refine Z.callSNl (As := [.long (J 36 (z7 : Int).toNat), .int (zI pw)]) (rest := []) hX (ct_X6_rootOf l D ce (J 36 (z7 : Int).toNat) pw (by omega)) mc_X6_rootOf ns_X4_67 st_X6_rootOf ini_X6 nd_X6_rootOf ⟨Nat.le_of_ble_eq_true rfl, Nat.le_of_ble_eq_true rfl⟩ ⟨rfl, rfl⟩ ⟨Nat.le_refl _, Nat.le_refl _⟩ rfl (Nat.le_of_ble_eq_true rfl) dX4_startRoot_59 ?_
          rintro r_10 w1 ⟨r011, hr_, hw_⟩
          subst hr_
          refine ⟨hw_, ?_⟩
          refine Z.lstore (lv' := [(5, .long r_10), (3, .long (J 36 (z7 : Int).toNat)), (2, .int (zI fb)), (0, .ref (h 5)), (1, .int (zI pw))]) hX dX4_startRoot_62 (by decide) rfl ?_
          refine Z.aload_n hX dX4_startRoot_64 rfl rfl ?_
          refine Z.getf hX 4 5 1 dX4_startRoot_65 rfl rfl inX4 (by decide) fl_X4_16 rfl rfl ?_
          refine Z.callVfv (As := []) (rest := []) hX 3 (24 + 37) rfl (cW_pl (by decide)) (ct_X3_erase l D ce h pl ar G L B J 37 (by decide) hB) mc_X3_erase ml_X4_71 im_X3_erase se_X3_erase ini_X3 nd_X3_erase ⟨Nat.le_of_ble_eq_true rfl, Nat.le_of_ble_eq_true rfl⟩ ⟨rfl, rfl⟩ ⟨Nat.le_refl _, Nat.le_refl _⟩ rfl (Nat.le_of_ble_eq_true rfl) dX4_startRoot_68 ?_
          rintro w1 ⟨B213, J214, hw_, e1, e2, e3, e4⟩
          subst hw_
          have e36 : B213 36 = B 36 := e1 36 (by decide)
          refine Z.aload_n hX dX4_startRoot_71 rfl rfl ?_
          refine Z.getf hX 4 5 1 dX4_startRoot_72 rfl rfl inX4 (by decide) fl_X4_16 rfl rfl ?_
          refine Z.aload_n hX dX4_startRoot_75 rfl rfl ?_
          refine Z.getf hX 4 5 0 dX4_startRoot_76 rfl rfl inX4 (by decide) fl_X4_10 rfl rfl ?_
          refine Z.getf hX 3 (24 + 36) 1 dX4_startRoot_79 (cW_pl (by decide)) rfl inX3 (by decide) fl_X4_32 rfl rfl ?_
          refine Z.iload_n hX dX4_startRoot_82 rfl rfl ?_
          refine Z.idiv hX dX4_startRoot_83 (by omega) (by omega) (by omega) (by omega) ?_
          have hdv := sr_div (b := B213 36) (k := pw) (by omega) hp
          obtain ⟨rb, erb⟩ : ∃ x, x = B213 36 / pw := ⟨_, rfl⟩
          rw [← erb]
          rw [← erb] at hdv
          have hmn := sr_mono (a := fb) (b := B213 36) (k := pw) (by omega) (by omega) hp.1
          rw [← erb] at hmn
          have hfd := sr_div (b := fb) (k := pw) (by omega) hp
          refine Z.putf (ty := .int) hX 3 (24 + 37) 1 tyX3 dX4_startRoot_84 (cW_pl (by decide)) rfl inX3 tyX3_ok nmX3 (by decide) fl_X4_32 rfl rfl (by decide +kernel) rfl rfl (Nat.le_of_ble_eq_true rfl) ?_
          obtain ⟨B15, eB15⟩ : ∃ F' : Nat → Int, F' = va_up B213 37 (rb) := ⟨_, rfl⟩
          refine Z.toW (w' := cW ce h pl ar G L B15 J214) (by rw [eB15]; exact cW_setB (by decide)) ?_
          have gB15 : B15 37 = rb := by rw [eB15]; exact up_eq
          have fB15 : ∀ j_, j_ ≠ 37 → B15 j_ = B213 j_ := fun j_ hj_ => by rw [eB15]; exact up_ne hj_
          refine Z.aload_n hX dX4_startRoot_87 rfl rfl ?_
          refine Z.getf hX 4 5 1 dX4_startRoot_88 rfl rfl inX4 (by decide) fl_X4_16 rfl rfl ?_
          refine Z.getf hX 3 (24 + 37) 0 dX4_startRoot_91 (cW_pl (by decide)) rfl inX3 (by decide) fl_X4_57 rfl rfl ?_
          refine Z.aload_n hX dX4_startRoot_94 rfl rfl ?_
          refine Z.getf hX 4 5 1 dX4_startRoot_95 rfl rfl inX4 (by decide) fl_X4_16 rfl rfl ?_
          refine Z.getf hX 3 (24 + 37) 1 dX4_startRoot_98 (cW_pl (by decide)) rfl inX3 (by decide) fl_X4_32 rfl rfl ?_
          refine Z.iload_n hX dX4_startRoot_101 rfl rfl ?_
          refine Z.iload_n hX dX4_startRoot_102 rfl rfl ?_
          refine Z.idiv hX dX4_startRoot_103 (by omega) (by omega) (by omega) (by omega) ?_
          obtain ⟨rf, erf⟩ : ∃ x, x = fb / pw := ⟨_, rfl⟩
          rw [← erf]
          rw [← erf] at hmn hfd
          refine Z.callSNi (As := [.int (zI (B15 37)), .int (zI rf)]) (rest := [.ref (ar 37)]) hX (ct_X6_slotOf l D ce (B15 37) rf (by omega) (by omega)) mc_X6_slotOf ns_X4_61 st_X6_slotOf ini_X6 nd_X6_slotOf ⟨Nat.le_of_ble_eq_true rfl, Nat.le_of_ble_eq_true rfl⟩ ⟨rfl, rfl⟩ ⟨Nat.le_refl _, Nat.le_refl _⟩ rfl (Nat.le_of_ble_eq_true rfl) dX4_startRoot_104 ?_
          rintro r_16 w1 ⟨z17, hr_, hw_, hq18, hq19⟩
          subst hr_
          refine ⟨hw_, ?_⟩
          refine Z.lload hX dX4_startRoot_107 rfl ?_
          refine Z.lastore hX (66 + 37) 1 dX4_startRoot_109 (cW_ar (by decide)) rfl (by omega) (by omega) (by decide) ?_
          obtain ⟨J20, eJ20⟩ : ∃ J' : Nat → Nat → Int64, J' = va_up J214 37 (vp_updL (J214 37) (z17 : Int).toNat (r_10)) := ⟨_, rfl⟩
          refine Z.toW (w' := cW ce h pl ar G L B15 J20) (by rw [eJ20]; exact cW_setJ (by decide)) ?_
          have gJ20 : J20 37 = vp_updL (J214 37) (z17 : Int).toNat (r_10) := by rw [eJ20]; exact up_eq
          have fJ20 : ∀ j_, j_ ≠ 37 → J20 j_ = J214 j_ := fun j_ hj_ => by rw [eJ20]; exact up_ne hj_
          refine Z.lload hX dX4_startRoot_110 rfl ?_
          refine Z.iload_n hX dX4_startRoot_112 rfl rfl ?_
          refine Z.callSNl (As := [.long r_10, .int (zI pw)]) (rest := []) hX (ct_X6_powerOf l D ce r_10 pw (by omega)) mc_X6_powerOf ns_X4_74 st_X6_powerOf ini_X6 nd_X6_powerOf ⟨Nat.le_of_ble_eq_true rfl, Nat.le_of_ble_eq_true rfl⟩ ⟨rfl, rfl⟩ ⟨Nat.le_refl _, Nat.le_refl _⟩ rfl (Nat.le_of_ble_eq_true rfl) dX4_startRoot_113 ?_
          rintro r_21 w1 ⟨r022, hr_, hw_, hq23⟩
          subst hr_
          refine ⟨hw_, ?_⟩
          refine Z.lload_n hX dX4_startRoot_116 rfl rfl ?_
          refine Z.lcmp_ne hX 125 dX4_startRoot_117 dX4_startRoot_118 (by decide) ?_ ?_
          · intro c24
            refine Z.iconst hX dX4_startRoot_125 ?_
            exact hR _ _ _ _ dX4_startRoot_126 rfl ⟨0, B15, J20, rfl, rfl, (BOK_s (k := 37) hB (by omega) (fun j_ h_37 => ((fB15 j_ h_37).trans ((e1 j_ h_37).trans rfl)))), (fun j_ h_37 => ((fB15 j_ h_37).trans ((e1 j_ h_37).trans rfl))), Or.inl rfl⟩
          · intro c24
            refine Z.iconst hX dX4_startRoot_121 ?_
            refine Z.goto hX 126 dX4_startRoot_122 (by decide) ?_
            exact hR _ _ _ _ dX4_startRoot_126 rfl ⟨1, B15, J20, rfl, rfl, (BOK_s (k := 37) hB (by omega) (fun j_ h_37 => ((fB15 j_ h_37).trans ((e1 j_ h_37).trans rfl)))), (fun j_ h_37 => ((fB15 j_ h_37).trans ((e1 j_ h_37).trans rfl))), Or.inr ⟨rfl, by rw [gB15]; omega⟩⟩
        · intro c5
          refine Z.iconst hX dX4_startRoot_35 ?_
          exact hR _ _ _ _ dX4_startRoot_36 rfl ⟨0, B, J, rfl, rfl, hB, (fun _ _ => rfl), Or.inl rfl⟩

theorem dX4_completeRoot_0 : decode cX4_completeRoot 0 = .ok (.aload_n 0, 1) := by decide +kernel
theorem dX4_completeRoot_1 : decode cX4_completeRoot 1 = .ok (.getfield 16, 3) := by decide +kernel
theorem dX4_completeRoot_4 : decode cX4_completeRoot 4 = .ok (.invokevirtual 53, 3) := by decide +kernel
theorem dX4_completeRoot_7 : decode cX4_completeRoot 7 = .ok (.istore_n 2, 1) := by decide +kernel
theorem dX4_completeRoot_8 : decode cX4_completeRoot 8 = .ok (.iload_n 2, 1) := by decide +kernel
theorem dX4_completeRoot_9 : decode cX4_completeRoot 9 = .ok (.ifCond .ge 5, 3) := by decide +kernel
theorem dX4_completeRoot_12 : decode cX4_completeRoot 12 = .ok (.iconst 0, 1) := by decide +kernel
theorem dX4_completeRoot_13 : decode cX4_completeRoot 13 = .ok (.ireturn, 1) := by decide +kernel
theorem dX4_completeRoot_14 : decode cX4_completeRoot 14 = .ok (.iload_n 1, 1) := by decide +kernel
theorem dX4_completeRoot_15 : decode cX4_completeRoot 15 = .ok (.i2l, 1) := by decide +kernel
theorem dX4_completeRoot_16 : decode cX4_completeRoot 16 = .ok (.aload_n 0, 1) := by decide +kernel
theorem dX4_completeRoot_17 : decode cX4_completeRoot 17 = .ok (.getfield 16, 3) := by decide +kernel
theorem dX4_completeRoot_20 : decode cX4_completeRoot 20 = .ok (.getfield 57, 3) := by decide +kernel
theorem dX4_completeRoot_23 : decode cX4_completeRoot 23 = .ok (.aload_n 0, 1) := by decide +kernel
theorem dX4_completeRoot_24 : decode cX4_completeRoot 24 = .ok (.getfield 16, 3) := by decide +kernel
theorem dX4_completeRoot_27 : decode cX4_completeRoot 27 = .ok (.getfield 32, 3) := by decide +kernel
theorem dX4_completeRoot_30 : decode cX4_completeRoot 30 = .ok (.iload_n 2, 1) := by decide +kernel
theorem dX4_completeRoot_31 : decode cX4_completeRoot 31 = .ok (.invokestatic 61, 3) := by decide +kernel
theorem dX4_completeRoot_34 : decode cX4_completeRoot 34 = .ok (.laload, 1) := by decide +kernel
theorem dX4_completeRoot_35 : decode cX4_completeRoot 35 = .ok (.iload_n 1, 1) := by decide +kernel
theorem dX4_completeRoot_36 : decode cX4_completeRoot 36 = .ok (.iconst 1, 1) := by decide +kernel
theorem dX4_completeRoot_37 : decode cX4_completeRoot 37 = .ok (.isub, 1) := by decide +kernel
theorem dX4_completeRoot_38 : decode cX4_completeRoot 38 = .ok (.invokestatic 74, 3) := by decide +kernel
theorem dX4_completeRoot_41 : decode cX4_completeRoot 41 = .ok (.lmul, 1) := by decide +kernel
theorem dX4_completeRoot_42 : decode cX4_completeRoot 42 = .ok (.lstore_n 3, 1) := by decide +kernel
theorem dX4_completeRoot_43 : decode cX4_completeRoot 43 = .ok (.lload_n 3, 1) := by decide +kernel
theorem dX4_completeRoot_44 : decode cX4_completeRoot 44 = .ok (.lconst 0, 1) := by decide +kernel
theorem dX4_completeRoot_45 : decode cX4_completeRoot 45 = .ok (.lcmp, 1) := by decide +kernel
theorem dX4_completeRoot_46 : decode cX4_completeRoot 46 = .ok (.ifCond .ne 5, 3) := by decide +kernel
theorem dX4_completeRoot_49 : decode cX4_completeRoot 49 = .ok (.iconst 0, 1) := by decide +kernel
theorem dX4_completeRoot_50 : decode cX4_completeRoot 50 = .ok (.ireturn, 1) := by decide +kernel
theorem dX4_completeRoot_51 : decode cX4_completeRoot 51 = .ok (.aload_n 0, 1) := by decide +kernel
theorem dX4_completeRoot_52 : decode cX4_completeRoot 52 = .ok (.getfield 10, 3) := by decide +kernel
theorem dX4_completeRoot_55 : decode cX4_completeRoot 55 = .ok (.invokevirtual 77, 3) := by decide +kernel
theorem dX4_completeRoot_58 : decode cX4_completeRoot 58 = .ok (.iload_n 1, 1) := by decide +kernel
theorem dX4_completeRoot_59 : decode cX4_completeRoot 59 = .ok (.invokestatic 67, 3) := by decide +kernel
theorem dX4_completeRoot_62 : decode cX4_completeRoot 62 = .ok (.lstore 5, 2) := by decide +kernel
theorem dX4_completeRoot_64 : decode cX4_completeRoot 64 = .ok (.aload_n 0, 1) := by decide +kernel
theorem dX4_completeRoot_65 : decode cX4_completeRoot 65 = .ok (.iload_n 1, 1) := by decide +kernel
theorem dX4_completeRoot_66 : decode cX4_completeRoot 66 = .ok (.invokevirtual 81, 3) := by decide +kernel
theorem dX4_completeRoot_69 : decode cX4_completeRoot 69 = .ok (.aload_n 0, 1) := by decide +kernel
theorem dX4_completeRoot_70 : decode cX4_completeRoot 70 = .ok (.getfield 16, 3) := by decide +kernel
theorem dX4_completeRoot_73 : decode cX4_completeRoot 73 = .ok (.getfield 32, 3) := by decide +kernel
theorem dX4_completeRoot_76 : decode cX4_completeRoot 76 = .ok (.istore 7, 2) := by decide +kernel
theorem dX4_completeRoot_78 : decode cX4_completeRoot 78 = .ok (.iload 7, 2) := by decide +kernel
theorem dX4_completeRoot_80 : decode cX4_completeRoot 80 = .ok (.ifCond .lt 157, 3) := by decide +kernel
theorem dX4_completeRoot_83 : decode cX4_completeRoot 83 = .ok (.iload 7, 2) := by decide +kernel
theorem dX4_completeRoot_85 : decode cX4_completeRoot 85 = .ok (.aload_n 0, 1) := by decide +kernel
theorem dX4_completeRoot_86 : decode cX4_completeRoot 86 = .ok (.getfield 16, 3) := by decide +kernel
theorem dX4_completeRoot_89 : decode cX4_completeRoot 89 = .ok (.getfield 32, 3) := by decide +kernel
theorem dX4_completeRoot_92 : decode cX4_completeRoot 92 = .ok (.if_icmp .ne 9, 3) := by decide +kernel
theorem dX4_completeRoot_95 : decode cX4_completeRoot 95 = .ok (.iload_n 2, 1) := by decide +kernel
theorem dX4_completeRoot_96 : decode cX4_completeRoot 96 = .ok (.iconst 1, 1) := by decide +kernel
theorem dX4_completeRoot_97 : decode cX4_completeRoot 97 = .ok (.iadd, 1) := by decide +kernel
theorem dX4_completeRoot_98 : decode cX4_completeRoot 98 = .ok (.goto 4, 3) := by decide +kernel
theorem dX4_completeRoot_101 : decode cX4_completeRoot 101 = .ok (.iconst 0, 1) := by decide +kernel
theorem dX4_completeRoot_102 : decode cX4_completeRoot 102 = .ok (.istore 8, 2) := by decide +kernel
theorem dX4_completeRoot_104 : decode cX4_completeRoot 104 = .ok (.iload 8, 2) := by decide +kernel
theorem dX4_completeRoot_106 : decode cX4_completeRoot 106 = .ok (.iload 7, 2) := by decide +kernel
theorem dX4_completeRoot_108 : decode cX4_completeRoot 108 = .ok (.if_icmp .gt 123, 3) := by decide +kernel
theorem dX4_completeRoot_111 : decode cX4_completeRoot 111 = .ok (.iload 7, 2) := by decide +kernel
theorem dX4_completeRoot_113 : decode cX4_completeRoot 113 = .ok (.iload_n 1, 1) := by decide +kernel
theorem dX4_completeRoot_114 : decode cX4_completeRoot 114 = .ok (.iconst 1, 1) := by decide +kernel
theorem dX4_completeRoot_115 : decode cX4_completeRoot 115 = .ok (.isub, 1) := by decide +kernel
theorem dX4_completeRoot_116 : decode cX4_completeRoot 116 = .ok (.aload_n 0, 1) := by decide +kernel
theorem dX4_completeRoot_117 : decode cX4_completeRoot 117 = .ok (.getfield 16, 3) := by decide +kernel
theorem dX4_completeRoot_120 : decode cX4_completeRoot 120 = .ok (.getfield 32, 3) := by decide +kernel
theorem dX4_completeRoot_123 : decode cX4_completeRoot 123 = .ok (.imul, 1) := by decide +kernel
theorem dX4_completeRoot_124 : decode cX4_completeRoot 124 = .ok (.iadd, 1) := by decide +kernel
theorem dX4_completeRoot_125 : decode cX4_completeRoot 125 = .ok (.iload 8, 2) := by decide +kernel
theorem dX4_completeRoot_127 : decode cX4_completeRoot 127 = .ok (.iload_n 1, 1) := by decide +kernel
theorem dX4_completeRoot_128 : decode cX4_completeRoot 128 = .ok (.iconst 1, 1) := by decide +kernel
theorem dX4_completeRoot_129 : decode cX4_completeRoot 129 = .ok (.isub, 1) := by decide +kernel
theorem dX4_completeRoot_130 : decode cX4_completeRoot 130 = .ok (.iload_n 2, 1) := by decide +kernel
theorem dX4_completeRoot_131 : decode cX4_completeRoot 131 = .ok (.imul, 1) := by decide +kernel
theorem dX4_completeRoot_132 : decode cX4_completeRoot 132 = .ok (.iadd, 1) := by decide +kernel
theorem dX4_completeRoot_133 : decode cX4_completeRoot 133 = .ok (.invokestatic 61, 3) := by decide +kernel
theorem dX4_completeRoot_136 : decode cX4_completeRoot 136 = .ok (.istore 9, 2) := by decide +kernel
theorem dX4_completeRoot_138 : decode cX4_completeRoot 138 = .ok (.aload_n 0, 1) := by decide +kernel
theorem dX4_completeRoot_139 : decode cX4_completeRoot 139 = .ok (.getfield 10, 3) := by decide +kernel
theorem dX4_completeRoot_142 : decode cX4_completeRoot 142 = .ok (.getfield 57, 3) := by decide +kernel
theorem dX4_completeRoot_145 : decode cX4_completeRoot 145 = .ok (.iload 9, 2) := by decide +kernel
theorem dX4_completeRoot_147 : decode cX4_completeRoot 147 = .ok (.laload, 1) := by decide +kernel
theorem dX4_completeRoot_148 : decode cX4_completeRoot 148 = .ok (.aload_n 0, 1) := by decide +kernel
theorem dX4_completeRoot_149 : decode cX4_completeRoot 149 = .ok (.getfield 19, 3) := by decide +kernel
theorem dX4_completeRoot_152 : decode cX4_completeRoot 152 = .ok (.getfield 57, 3) := by decide +kernel
theorem dX4_completeRoot_155 : decode cX4_completeRoot 155 = .ok (.iload 9, 2) := by decide +kernel
theorem dX4_completeRoot_157 : decode cX4_completeRoot 157 = .ok (.laload, 1) := by decide +kernel
theorem dX4_completeRoot_158 : decode cX4_completeRoot 158 = .ok (.lsub, 1) := by decide +kernel
theorem dX4_completeRoot_159 : decode cX4_completeRoot 159 = .ok (.lstore 10, 2) := by decide +kernel
theorem dX4_completeRoot_161 : decode cX4_completeRoot 161 = .ok (.lload 10, 2) := by decide +kernel
theorem dX4_completeRoot_163 : decode cX4_completeRoot 163 = .ok (.lload_n 3, 1) := by decide +kernel
theorem dX4_completeRoot_164 : decode cX4_completeRoot 164 = .ok (.ldiv, 1) := by decide +kernel
theorem dX4_completeRoot_165 : decode cX4_completeRoot 165 = .ok (.lstore 12, 2) := by decide +kernel
theorem dX4_completeRoot_167 : decode cX4_completeRoot 167 = .ok (.lload 12, 2) := by decide +kernel
theorem dX4_completeRoot_169 : decode cX4_completeRoot 169 = .ok (.lload_n 3, 1) := by decide +kernel
theorem dX4_completeRoot_170 : decode cX4_completeRoot 170 = .ok (.lmul, 1) := by decide +kernel
theorem dX4_completeRoot_171 : decode cX4_completeRoot 171 = .ok (.lload 10, 2) := by decide +kernel
theorem dX4_completeRoot_173 : decode cX4_completeRoot 173 = .ok (.lcmp, 1) := by decide +kernel
theorem dX4_completeRoot_174 : decode cX4_completeRoot 174 = .ok (.ifCond .ne 20, 3) := by decide +kernel
theorem dX4_completeRoot_177 : decode cX4_completeRoot 177 = .ok (.lload 12, 2) := by decide +kernel
theorem dX4_completeRoot_179 : decode cX4_completeRoot 179 = .ok (.lload 5, 2) := by decide +kernel
theorem dX4_completeRoot_181 : decode cX4_completeRoot 181 = .ok (.lcmp, 1) := by decide +kernel
theorem dX4_completeRoot_182 : decode cX4_completeRoot 182 = .ok (.ifCond .gt 12, 3) := by decide +kernel
theorem dX4_completeRoot_185 : decode cX4_completeRoot 185 = .ok (.lload 12, 2) := by decide +kernel
theorem dX4_completeRoot_187 : decode cX4_completeRoot 187 = .ok (.lload 5, 2) := by decide +kernel
theorem dX4_completeRoot_189 : decode cX4_completeRoot 189 = .ok (.lneg, 1) := by decide +kernel
theorem dX4_completeRoot_190 : decode cX4_completeRoot 190 = .ok (.lcmp, 1) := by decide +kernel
theorem dX4_completeRoot_191 : decode cX4_completeRoot 191 = .ok (.ifCond .ge 5, 3) := by decide +kernel
theorem dX4_completeRoot_194 : decode cX4_completeRoot 194 = .ok (.iconst 0, 1) := by decide +kernel
theorem dX4_completeRoot_195 : decode cX4_completeRoot 195 = .ok (.ireturn, 1) := by decide +kernel
theorem dX4_completeRoot_196 : decode cX4_completeRoot 196 = .ok (.lload 12, 2) := by decide +kernel
theorem dX4_completeRoot_198 : decode cX4_completeRoot 198 = .ok (.lconst 0, 1) := by decide +kernel
theorem dX4_completeRoot_199 : decode cX4_completeRoot 199 = .ok (.lcmp, 1) := by decide +kernel
theorem dX4_completeRoot_200 : decode cX4_completeRoot 200 = .ok (.ifCond .eq 25, 3) := by decide +kernel
theorem dX4_completeRoot_203 : decode cX4_completeRoot 203 = .ok (.aload_n 0, 1) := by decide +kernel
theorem dX4_completeRoot_204 : decode cX4_completeRoot 204 = .ok (.getfield 16, 3) := by decide +kernel
theorem dX4_completeRoot_207 : decode cX4_completeRoot 207 = .ok (.getfield 57, 3) := by decide +kernel
theorem dX4_completeRoot_210 : decode cX4_completeRoot 210 = .ok (.iload 7, 2) := by decide +kernel
theorem dX4_completeRoot_212 : decode cX4_completeRoot 212 = .ok (.iload 8, 2) := by decide +kernel
theorem dX4_completeRoot_214 : decode cX4_completeRoot 214 = .ok (.invokestatic 61, 3) := by decide +kernel
theorem dX4_completeRoot_217 : decode cX4_completeRoot 217 = .ok (.lload 12, 2) := by decide +kernel
theorem dX4_completeRoot_219 : decode cX4_completeRoot 219 = .ok (.lastore, 1) := by decide +kernel
theorem dX4_completeRoot_220 : decode cX4_completeRoot 220 = .ok (.aload_n 0, 1) := by decide +kernel
theorem dX4_completeRoot_221 : decode cX4_completeRoot 221 = .ok (.iload_n 1, 1) := by decide +kernel
theorem dX4_completeRoot_222 : decode cX4_completeRoot 222 = .ok (.invokevirtual 81, 3) := by decide +kernel
theorem dX4_completeRoot_225 : decode cX4_completeRoot 225 = .ok (.iinc 8 1, 3) := by decide +kernel
theorem dX4_completeRoot_228 : decode cX4_completeRoot 228 = .ok (.goto (-124), 3) := by decide +kernel
theorem dX4_completeRoot_231 : decode cX4_completeRoot 231 = .ok (.iinc 7 (-1), 3) := by decide +kernel
theorem dX4_completeRoot_234 : decode cX4_completeRoot 234 = .ok (.goto (-156), 3) := by decide +kernel
theorem dX4_completeRoot_237 : decode cX4_completeRoot 237 = .ok (.iconst 1, 1) := by decide +kernel
theorem dX4_completeRoot_238 : decode cX4_completeRoot 238 = .ok (.ireturn, 1) := by decide +kernel
set_option maxHeartbeats 4000000 in
set_option maxRecDepth 100000 in
theorem ct_X4_completeRoot (l : Launch) (D : va_G) (ce : Nat → ClassId) (h pl ar : Nat → Nat) (G : Nat → Int) (L : Nat → Nat → Int64) (B : Nat → Int) (J : Nat → Nat → Int64) (pw : Int) (hB : BOK B) (hp : 2 ≤ pw ∧ pw ≤ 6) (hr : B 37 * pw ≤ 6) : Ct l yX4_completeRoot cX4_completeRoot 14 (some .boolean) { frames := 3, cells := 0, slots := 0, locals := 83 } 0 0 D (TY ce) [.ref (h 5), .int (zI pw)] (cW ce h pl ar G L B J) (QI D (TY ce) (fun r w1 => ∃ z : Int, ∃ B2 : Nat → Int, ∃ J2 : Nat → Nat → Int64, r = zI z ∧ w1 = cW ce h pl ar G L B2 J2 ∧ (BOK B2) ∧ (∀ k, k ≠ 38 → k ≠ 39 → B2 k = B k) ∧ (z = 0 ∨ z = 1))) := by
  refine Ct.ofB (by decide) (Nat.le_of_ble_eq_true rfl) ?_
  intro p e s m args below meth c A Q hX hnm hR
  refine Z.pick (lv' := [(0, .ref (h 5)), (1, .int (zI pw))]) [0, 1] rfl ?_
  have hb37 := hB 37 (by decide)
  refine Z.aload_n hX dX4_completeRoot_0 rfl rfl ?_
  refine Z.getf hX 4 5 1 dX4_completeRoot_1 rfl rfl inX4 (by decide) fl_X4_16 rfl rfl ?_
  refine Z.callVfi (As := []) (rest := []) hX 3 (24 + 37) rfl (cW_pl (by decide)) (ct_X3_firstOfBound l D ce h pl ar G L B J 37 (by decide) hB) mc_X3_firstOfBound ml_X4_53 im_X3_firstOfBound se_X3_firstOfBound ini_X3 nd_X3_firstOfBound ⟨Nat.le_of_ble_eq_true rfl, Nat.le_of_ble_eq_true rfl⟩ ⟨rfl, rfl⟩ ⟨Nat.le_refl _, Nat.le_refl _⟩ rfl (Nat.le_of_ble_eq_true rfl) dX4_completeRoot_4 ?_
  rintro r_1 w1 ⟨fb, hr_, hw_, hfb⟩
  subst hr_
  subst hw_
  refine Z.istore_n (lv' := [(2, .int (zI fb)), (0, .ref (h 5)), (1, .int (zI pw))]) hX dX4_completeRoot_7 rfl (by decide) rfl ?_
  refine Z.iload_n hX dX4_completeRoot_8 rfl rfl ?_
  refine Z.if_ge hX 14 dX4_completeRoot_9 (by decide) ⟨by omega, by omega⟩ ?_ ?_
  · intro c2
    refine Z.iload_n hX dX4_completeRoot_14 rfl rfl ?_
    refine Z.i2l hX dX4_completeRoot_15 ⟨by omega, by omega⟩ ?_
    refine Z.aload_n hX dX4_completeRoot_16 rfl rfl ?_
    refine Z.getf hX 4 5 1 dX4_completeRoot_17 rfl rfl inX4 (by decide) fl_X4_16 rfl rfl ?_
    refine Z.getf hX 3 (24 + 37) 0 dX4_completeRoot_20 (cW_pl (by decide)) rfl inX3 (by decide) fl_X4_57 rfl rfl ?_
    refine Z.aload_n hX dX4_completeRoot_23 rfl rfl ?_
    refine Z.getf hX 4 5 1 dX4_completeRoot_24 rfl rfl inX4 (by decide) fl_X4_16 rfl rfl ?_
    refine Z.getf hX 3 (24 + 37) 1 dX4_completeRoot_27 (cW_pl (by decide)) rfl inX3 (by decide) fl_X4_32 rfl rfl ?_
    refine Z.iload_n hX dX4_completeRoot_30 rfl rfl ?_
    refine Z.callSNi (As := [.int (zI (B 37)), .int (zI fb)]) (rest := [.ref (ar 37), .long (zL pw)]) hX (ct_X6_slotOf l D ce (B 37) fb (by omega) (by omega)) mc_X6_slotOf ns_X4_61 st_X6_slotOf ini_X6 nd_X6_slotOf ⟨Nat.le_of_ble_eq_true rfl, Nat.le_of_ble_eq_true rfl⟩ ⟨rfl, rfl⟩ ⟨Nat.le_refl _, Nat.le_refl _⟩ rfl (Nat.le_of_ble_eq_true rfl) dX4_completeRoot_31 ?_
    rintro r_3 w1 ⟨z4, hr_, hw_, hq5, hq6⟩
    subst hr_
    refine ⟨hw_, ?_⟩
    refine Z.laload hX (66 + 37) 1 dX4_completeRoot_34 (cW_ar (by decide)) rfl (by omega) (by omega) (by decide) ?_
    refine Z.iload_n hX dX4_completeRoot_35 rfl rfl ?_
    refine Z.iconst hX dX4_completeRoot_36 ?_
    refine Z.isub hX dX4_completeRoot_37 ?_
    refine Z.callSNl (As := [.long (J 37 (z4 : Int).toNat), .int (zI (pw - 1))]) (rest := [.long (zL pw)]) hX (ct_X6_powerOf l D ce (J 37 (z4 : Int).toNat) (pw - 1) (by omega)) mc_X6_powerOf ns_X4_74 st_X6_powerOf ini_X6 nd_X6_powerOf ⟨Nat.le_of_ble_eq_true rfl, Nat.le_of_ble_eq_true rfl⟩ ⟨rfl, rfl⟩ ⟨Nat.le_refl _, Nat.le_refl _⟩ rfl (Nat.le_of_ble_eq_true rfl) dX4_completeRoot_38 ?_
    rintro r_7 w1 ⟨r08, hr_, hw_, hq9⟩
    subst hr_
    refine ⟨hw_, ?_⟩
    refine Z.lmul hX dX4_completeRoot_41 ?_
    refine Z.lstore_n (lv' := [(3, .long ((zL pw) * r_7)), (2, .int (zI fb)), (0, .ref (h 5)), (1, .int (zI pw))]) hX dX4_completeRoot_42 rfl (by decide) rfl ?_
    obtain ⟨dv, edv⟩ : ∃ x : Int64, x = (zL pw) * r_7 := ⟨_, rfl⟩
    rw [← edv]
    refine Z.lload_n hX dX4_completeRoot_43 rfl rfl ?_
    refine Z.lconst (v := 0) hX dX4_completeRoot_44 rfl ?_
    refine Z.lcmp_ne hX 51 dX4_completeRoot_45 dX4_completeRoot_46 (by decide) ?_ ?_
    · intro c10
      have hdv0 : ¬ dv = 0 := by assumption
      refine Z.aload_n hX dX4_completeRoot_51 rfl rfl ?_
      refine Z.getf hX 4 5 0 dX4_completeRoot_52 rfl rfl inX4 (by decide) fl_X4_10 rfl rfl ?_
      refine Z.callVfl (As := []) (rest := []) hX 3 (24 + 36) rfl (cW_pl (by decide)) (ct_X3_sumOfSizes l D ce h pl ar G L B J 36 (by decide) hB) mc_X3_sumOfSizes ml_X4_77 im_X3_sumOfSizes se_X3_sumOfSizes ini_X3 nd_X3_sumOfSizes ⟨Nat.le_of_ble_eq_true rfl, Nat.le_of_ble_eq_true rfl⟩ ⟨rfl, rfl⟩ ⟨Nat.le_refl _, Nat.le_refl _⟩ rfl (Nat.le_of_ble_eq_true rfl) dX4_completeRoot_55 ?_
      rintro r_11 w1 ⟨r012, hr_, hw_⟩
      subst hr_
      subst hw_
      refine Z.iload_n hX dX4_completeRoot_58 rfl rfl ?_
      refine Z.callSNl (As := [.long r_11, .int (zI pw)]) (rest := []) hX (ct_X6_rootOf l D ce r_11 pw (by omega)) mc_X6_rootOf ns_X4_67 st_X6_rootOf ini_X6 nd_X6_rootOf ⟨Nat.le_of_ble_eq_true rfl, Nat.le_of_ble_eq_true rfl⟩ ⟨rfl, rfl⟩ ⟨Nat.le_refl _, Nat.le_refl _⟩ rfl (Nat.le_of_ble_eq_true rfl) dX4_completeRoot_59 ?_
      rintro li w1 ⟨r014, hr_, hw_⟩
      subst hr_
      refine ⟨hw_, ?_⟩
      refine Z.lstore (lv' := [(5, .long li), (3, .long dv), (2, .int (zI fb)), (0, .ref (h 5)), (1, .int (zI pw))]) hX dX4_completeRoot_62 (by decide) rfl ?_
      refine Z.aload_n hX dX4_completeRoot_64 rfl rfl ?_
      refine Z.iload_n hX dX4_completeRoot_65 rfl rfl ?_
      refine Z.callVfv (As := [.int (zI pw)]) (rest := []) hX 4 5 rfl rfl (ct_X4_raiseRoot l D ce h pl ar G L B J pw hB (by omega)) mc_X4_raiseRoot ml_X4_81 im_X4_raiseRoot se_X4_raiseRoot ini_X4 nd_X4_raiseRoot ⟨Nat.le_of_ble_eq_true rfl, Nat.le_of_ble_eq_true rfl⟩ ⟨rfl, rfl⟩ ⟨Nat.le_refl _, Nat.le_refl _⟩ rfl (Nat.le_of_ble_eq_true rfl) dX4_completeRoot_66 ?_
      rintro w1 ⟨B216, J217, hw_, r1, r2⟩
      subst hw_
      have e37r := r2 37 (by decide) (by decide)
      refine Z.aload_n hX dX4_completeRoot_69 rfl rfl ?_
      refine Z.getf hX 4 5 1 dX4_completeRoot_70 rfl rfl inX4 (by decide) fl_X4_16 rfl rfl ?_
      refine Z.getf hX 3 (24 + 37) 1 dX4_completeRoot_73 (cW_pl (by decide)) rfl inX3 (by decide) fl_X4_32 rfl rfl ?_
      refine Z.istore (lv' := [(7, .int (zI (B216 37))), (5, .long li), (3, .long dv), (2, .int (zI fb)), (0, .ref (h 5)), (1, .int (zI pw))]) hX dX4_completeRoot_76 (by decide) rfl ?_
      have key_78 : ∀ (N : Nat), ∀ (dd : Int) (BB : Nat → Int) (MM : Nat → Nat → Int64), (dd + 1).toNat < N → (hd : -1 ≤ dd ∧ dd ≤ B 37) → (hM : BOK BB) → (hf : ∀ k, k ≠ 38 → k ≠ 39 → BB k = B k) → Z p l e { frames := 3, cells := 0, slots := 0, locals := 83 } s m args below meth c D A 14 0 0 Q 78 [(7, .int (zI dd)), (5, .long li), (3, .long dv), (2, .int (zI fb)), (1, .int (zI pw)), (0, .ref (h 5))] [] (cW ce h pl ar G L BB MM) := by
        intro N
        induction N with
        | zero => intro dd BB MM hm; exact absurd hm (Nat.not_lt_zero _)
        | succ N ih_78 =>
          intro dd BB MM hm hd hM hf
          have e37 : BB 37 = B 37 := hf 37 (by decide) (by decide)
          refine Z.iload hX dX4_completeRoot_78 rfl ?_
          refine Z.if_lt hX 237 dX4_completeRoot_80 (by decide) ⟨by omega, by omega⟩ ?_ ?_
          · intro c18
            refine Z.iconst hX dX4_completeRoot_237 ?_
            exact hR _ _ _ _ dX4_completeRoot_238 rfl ⟨1, BB, MM, rfl, rfl, hM, (fun j_ h_38 h_39 => (hf j_ h_38 h_39)), (by omega)⟩
          · intro c18
            have key_102 : ∀ (j0 : Int), (hj0 : 0 ≤ j0 ∧ (j0 ≤ dd + 1)) → Z p l e { frames := 3, cells := 0, slots := 0, locals := 83 } s m args below meth c D A 14 0 0 Q 102 [(7, .int (zI dd)), (5, .long li), (3, .long dv), (2, .int (zI fb)), (1, .int (zI pw)), (0, .ref (h 5))] [.int (zI j0)] (cW ce h pl ar G L BB MM) := by
              intro j0 hj0
              refine Z.istore (lv' := [(8, .int (zI j0)), (7, .int (zI dd)), (5, .long li), (3, .long dv), (2, .int (zI fb)), (1, .int (zI pw)), (0, .ref (h 5))]) hX dX4_completeRoot_102 (by decide) rfl ?_
              have key_104 : ∀ (N : Nat), ∀ (j : Int) (BB : Nat → Int) (MM : Nat → Nat → Int64), (dd + 1 - j).toNat < N → (hj : 0 ≤ j ∧ j ≤ dd + 1) → (hM : BOK BB) → (hf : ∀ k, k ≠ 38 → k ≠ 39 → BB k = B k) → Z p l e { frames := 3, cells := 0, slots := 0, locals := 83 } s m args below meth c D A 14 0 0 Q 104 [(8, .int (zI j)), (7, .int (zI dd)), (5, .long li), (3, .long dv), (2, .int (zI fb)), (1, .int (zI pw)), (0, .ref (h 5))] [] (cW ce h pl ar G L BB MM) := by
                intro N
                induction N with
                | zero => intro j BB MM hm; exact absurd hm (Nat.not_lt_zero _)
                | succ N ih_104 =>
                  intro j BB MM hm hj hM hf
                  have e37 : BB 37 = B 37 := hf 37 (by decide) (by decide)
                  refine Z.iload hX dX4_completeRoot_104 rfl ?_
                  refine Z.iload hX dX4_completeRoot_106 rfl ?_
                  refine Z.icmp_gt hX 231 dX4_completeRoot_108 (by decide) ⟨by omega, by omega⟩ ⟨by omega, by omega⟩ ?_ ?_
                  · intro c19
                    refine Z.iinc (lv' := [(7, .int (zI (dd + -1))), (8, .int (zI j)), (5, .long li), (3, .long dv), (2, .int (zI fb)), (1, .int (zI pw)), (0, .ref (h 5))]) hX dX4_completeRoot_231 rfl (by decide) rfl ?_
                    refine Z.goto hX 78 dX4_completeRoot_234 (by decide) ?_
                    refine Z.pick [0, 2, 3, 4, 5, 6] rfl ?_
                    exact ih_78 _ _ _ (by omega) (by omega) hM hf
                  · intro c19
                    have e37 : BB 37 = B 37 := hf 37 (by decide) (by decide)
                    have hcb := cr_b (B := BB 37) (k := pw) (f := fb) (d := dd) (j := j) (by omega) ⟨by omega, by rw [e37]; exact hr⟩ (by omega) (by omega) (by omega)
                    refine Z.iload hX dX4_completeRoot_111 rfl ?_
                    refine Z.iload_n hX dX4_completeRoot_113 rfl rfl ?_
                    refine Z.iconst hX dX4_completeRoot_114 ?_
                    refine Z.isub hX dX4_completeRoot_115 ?_
                    refine Z.aload_n hX dX4_completeRoot_116 rfl rfl ?_
                    refine Z.getf hX 4 5 1 dX4_completeRoot_117 rfl rfl inX4 (by decide) fl_X4_16 rfl rfl ?_
                    refine Z.getf hX 3 (24 + 37) 1 dX4_completeRoot_120 (cW_pl (by decide)) rfl inX3 (by decide) fl_X4_32 rfl rfl ?_
                    refine Z.imul hX dX4_completeRoot_123 ?_
                    refine Z.iadd hX dX4_completeRoot_124 ?_
                    refine Z.iload hX dX4_completeRoot_125 rfl ?_
                    refine Z.iload_n hX dX4_completeRoot_127 rfl rfl ?_
                    refine Z.iconst hX dX4_completeRoot_128 ?_
                    refine Z.isub hX dX4_completeRoot_129 ?_
                    refine Z.iload_n hX dX4_completeRoot_130 rfl rfl ?_
                    refine Z.imul hX dX4_completeRoot_131 ?_
                    refine Z.iadd hX dX4_completeRoot_132 ?_
                    refine Z.callSNi (As := [.int (zI (dd + ((pw - 1) * (BB 37)))), .int (zI (j + ((pw - 1) * fb)))]) (rest := []) hX (ct_X6_slotOf l D ce (dd + ((pw - 1) * (BB 37))) (j + ((pw - 1) * fb)) (by omega) (by omega)) mc_X6_slotOf ns_X4_61 st_X6_slotOf ini_X6 nd_X6_slotOf ⟨Nat.le_of_ble_eq_true rfl, Nat.le_of_ble_eq_true rfl⟩ ⟨rfl, rfl⟩ ⟨Nat.le_refl _, Nat.le_refl _⟩ rfl (Nat.le_of_ble_eq_true rfl) dX4_completeRoot_133 ?_
                    rintro r_20 w1 ⟨z21, hr_, hw_, hq22, hq23⟩
                    subst hr_
                    refine ⟨hw_, ?_⟩
                    refine Z.istore (lv' := [(9, .int (zI z21)), (8, .int (zI j)), (7, .int (zI dd)), (5, .long li), (3, .long dv), (2, .int (zI fb)), (1, .int (zI pw)), (0, .ref (h 5))]) hX dX4_completeRoot_136 (by decide) rfl ?_
                    refine Z.aload_n hX dX4_completeRoot_138 rfl rfl ?_
                    refine Z.getf hX 4 5 0 dX4_completeRoot_139 rfl rfl inX4 (by decide) fl_X4_10 rfl rfl ?_
                    refine Z.getf hX 3 (24 + 36) 0 dX4_completeRoot_142 (cW_pl (by decide)) rfl inX3 (by decide) fl_X4_57 rfl rfl ?_
                    refine Z.iload hX dX4_completeRoot_145 rfl ?_
                    refine Z.laload hX (66 + 36) 1 dX4_completeRoot_147 (cW_ar (by decide)) rfl (by omega) (by omega) (by decide) ?_
                    refine Z.aload_n hX dX4_completeRoot_148 rfl rfl ?_
                    refine Z.getf hX 4 5 2 dX4_completeRoot_149 rfl rfl inX4 (by decide) fl_X4_19 rfl rfl ?_
                    refine Z.getf hX 3 (24 + 38) 0 dX4_completeRoot_152 (cW_pl (by decide)) rfl inX3 (by decide) fl_X4_57 rfl rfl ?_
                    refine Z.iload hX dX4_completeRoot_155 rfl ?_
                    refine Z.laload hX (66 + 38) 1 dX4_completeRoot_157 (cW_ar (by decide)) rfl (by omega) (by omega) (by decide) ?_
                    refine Z.lsub hX dX4_completeRoot_158 ?_
                    refine Z.lstore (lv' := [(10, .long ((MM 36 (z21 : Int).toNat) - (MM 38 (z21 : Int).toNat))), (9, .int (zI z21)), (8, .int (zI j)), (7, .int (zI dd)), (5, .long li), (3, .long dv), (2, .int (zI fb)), (1, .int (zI pw)), (0, .ref (h 5))]) hX dX4_completeRoot_159 (by decide) rfl ?_
                    obtain ⟨re, ere⟩ : ∃ x : Int64, x = (MM 36 (z21 : Int).toNat) - (MM 38 (z21 : Int).toNat) := ⟨_, rfl⟩
                    rw [← ere]
                    refine Z.lload hX dX4_completeRoot_161 rfl ?_
                    refine Z.lload_n hX dX4_completeRoot_163 rfl rfl ?_
                    refine Z.ldiv hX dX4_completeRoot_164 hdv0 ?_
                    refine Z.lstore (lv' := [(12, .long (re / dv)), (10, .long re), (9, .int (zI z21)), (8, .int (zI j)), (7, .int (zI dd)), (5, .long li), (3, .long dv), (2, .int (zI fb)), (1, .int (zI pw)), (0, .ref (h 5))]) hX dX4_completeRoot_165 (by decide) rfl ?_
                    obtain ⟨fo, efo⟩ : ∃ x : Int64, x = re / dv := ⟨_, rfl⟩
                    rw [← efo]
                    refine Z.lload hX dX4_completeRoot_167 rfl ?_
                    refine Z.lload_n hX dX4_completeRoot_169 rfl rfl ?_
                    refine Z.lmul hX dX4_completeRoot_170 ?_
                    refine Z.lload hX dX4_completeRoot_171 rfl ?_
                    refine Z.lcmp_ne hX 194 dX4_completeRoot_173 dX4_completeRoot_174 (by decide) ?_ ?_
                    · intro c24
                      refine Z.iconst hX dX4_completeRoot_194 ?_
                      exact hR _ _ _ _ dX4_completeRoot_195 rfl ⟨0, BB, MM, rfl, rfl, hM, (fun j_ h_38 h_39 => (hf j_ h_38 h_39)), (by omega)⟩
                    · intro c24
                      refine Z.lload hX dX4_completeRoot_177 rfl ?_
                      refine Z.lload hX dX4_completeRoot_179 rfl ?_
                      refine Z.lcmp_gt hX 194 dX4_completeRoot_181 dX4_completeRoot_182 (by decide) ?_ ?_
                      · intro c25
                        refine Z.iconst hX dX4_completeRoot_194 ?_
                        exact hR _ _ _ _ dX4_completeRoot_195 rfl ⟨0, BB, MM, rfl, rfl, hM, (fun j_ h_38 h_39 => (hf j_ h_38 h_39)), (by omega)⟩
                      · intro c25
                        refine Z.lload hX dX4_completeRoot_185 rfl ?_
                        refine Z.lload hX dX4_completeRoot_187 rfl ?_
                        refine Z.lneg hX dX4_completeRoot_189 ?_
                        refine Z.lcmp_ge hX 196 dX4_completeRoot_190 dX4_completeRoot_191 (by decide) ?_ ?_
                        · intro c26
                          refine Z.lload hX dX4_completeRoot_196 rfl ?_
                          refine Z.lconst (v := 0) hX dX4_completeRoot_198 rfl ?_
                          refine Z.lcmp_eq hX 225 dX4_completeRoot_199 dX4_completeRoot_200 (by decide) ?_ ?_
                          · intro c27
                            refine Z.iinc (lv' := [(8, .int (zI (j + 1))), (12, .long fo), (10, .long re), (9, .int (zI z21)), (7, .int (zI dd)), (5, .long li), (3, .long dv), (2, .int (zI fb)), (1, .int (zI pw)), (0, .ref (h 5))]) hX dX4_completeRoot_225 rfl (by decide) rfl ?_
                            refine Z.goto hX 104 dX4_completeRoot_228 (by decide) ?_
                            refine Z.pick [0, 4, 5, 6, 7, 8, 9] rfl ?_
                            exact ih_104 _ _ _ (by omega) (by omega) hM (fun j_ h_38 h_39 => (hf j_ h_38 h_39))
                          · intro c27
                            refine Z.aload_n hX dX4_completeRoot_203 rfl rfl ?_
                            refine Z.getf hX 4 5 1 dX4_completeRoot_204 rfl rfl inX4 (by decide) fl_X4_16 rfl rfl ?_
                            refine Z.getf hX 3 (24 + 37) 0 dX4_completeRoot_207 (cW_pl (by decide)) rfl inX3 (by decide) fl_X4_57 rfl rfl ?_
                            refine Z.iload hX dX4_completeRoot_210 rfl ?_
                            refine Z.iload hX dX4_completeRoot_212 rfl ?_
                            refine Z.callSNi (As := [.int (zI dd), .int (zI j)]) (rest := [.ref (ar 37)]) hX (ct_X6_slotOf l D ce dd j (by omega) (by omega)) mc_X6_slotOf ns_X4_61 st_X6_slotOf ini_X6 nd_X6_slotOf ⟨Nat.le_of_ble_eq_true rfl, Nat.le_of_ble_eq_true rfl⟩ ⟨rfl, rfl⟩ ⟨Nat.le_refl _, Nat.le_refl _⟩ rfl (Nat.le_of_ble_eq_true rfl) dX4_completeRoot_214 ?_
                            rintro r_28 w1 ⟨z29, hr_, hw_, hq30, hq31⟩
                            subst hr_
                            refine ⟨hw_, ?_⟩
                            refine Z.lload hX dX4_completeRoot_217 rfl ?_
                            refine Z.lastore hX (66 + 37) 1 dX4_completeRoot_219 (cW_ar (by decide)) rfl (by omega) (by omega) (by decide) ?_
                            obtain ⟨J32, eJ32⟩ : ∃ J' : Nat → Nat → Int64, J' = va_up MM 37 (vp_updL (MM 37) (z29 : Int).toNat (fo)) := ⟨_, rfl⟩
                            refine Z.toW (w' := cW ce h pl ar G L BB J32) (by rw [eJ32]; exact cW_setJ (by decide)) ?_
                            have gJ32 : J32 37 = vp_updL (MM 37) (z29 : Int).toNat (fo) := by rw [eJ32]; exact up_eq
                            have fJ32 : ∀ j_, j_ ≠ 37 → J32 j_ = MM j_ := fun j_ hj_ => by rw [eJ32]; exact up_ne hj_
                            refine Z.aload_n hX dX4_completeRoot_220 rfl rfl ?_
                            refine Z.iload_n hX dX4_completeRoot_221 rfl rfl ?_
                            refine Z.callVfv (As := [.int (zI pw)]) (rest := []) hX 4 5 rfl rfl (ct_X4_raiseRoot l D ce h pl ar G L BB J32 pw hM (by omega)) mc_X4_raiseRoot ml_X4_81 im_X4_raiseRoot se_X4_raiseRoot ini_X4 nd_X4_raiseRoot ⟨Nat.le_of_ble_eq_true rfl, Nat.le_of_ble_eq_true rfl⟩ ⟨rfl, rfl⟩ ⟨Nat.le_refl _, Nat.le_refl _⟩ rfl (Nat.le_of_ble_eq_true rfl) dX4_completeRoot_222 ?_
                            rintro w1 ⟨B234, J235, hw_, s1, s2⟩
                            subst hw_
                            refine Z.iinc (lv' := [(8, .int (zI (j + 1))), (12, .long fo), (10, .long re), (9, .int (zI z21)), (7, .int (zI dd)), (5, .long li), (3, .long dv), (2, .int (zI fb)), (1, .int (zI pw)), (0, .ref (h 5))]) hX dX4_completeRoot_225 rfl (by decide) rfl ?_
                            refine Z.goto hX 104 dX4_completeRoot_228 (by decide) ?_
                            refine Z.pick [0, 4, 5, 6, 7, 8, 9] rfl ?_
                            exact ih_104 _ _ _ (by omega) (by omega) s1 (fun j_ h_38 h_39 => ((s2 j_ h_38 h_39).trans (hf j_ h_38 h_39)))
                        · intro c26
                          refine Z.iconst hX dX4_completeRoot_194 ?_
                          exact hR _ _ _ _ dX4_completeRoot_195 rfl ⟨0, BB, MM, rfl, rfl, hM, (fun j_ h_38 h_39 => (hf j_ h_38 h_39)), (by omega)⟩
              refine Z.pick [0, 1, 2, 3, 4, 5, 6] rfl ?_
              exact key_104 _ _ _ _ (Nat.lt_succ_self _) (by omega) hM hf
            refine Z.iload hX dX4_completeRoot_83 rfl ?_
            refine Z.aload_n hX dX4_completeRoot_85 rfl rfl ?_
            refine Z.getf hX 4 5 1 dX4_completeRoot_86 rfl rfl inX4 (by decide) fl_X4_16 rfl rfl ?_
            refine Z.getf hX 3 (24 + 37) 1 dX4_completeRoot_89 (cW_pl (by decide)) rfl inX3 (by decide) fl_X4_32 rfl rfl ?_
            refine Z.icmp_ne hX 101 dX4_completeRoot_92 (by decide) ⟨by omega, by omega⟩ ⟨by omega, by omega⟩ ?_ ?_
            · intro c36
              refine Z.iconst hX dX4_completeRoot_101 ?_
              refine Z.pick [0, 1, 2, 3, 4, 5] rfl ?_
              exact key_102 _ (by omega)
            · intro c36
              refine Z.iload_n hX dX4_completeRoot_95 rfl rfl ?_
              refine Z.iconst hX dX4_completeRoot_96 ?_
              refine Z.iadd hX dX4_completeRoot_97 ?_
              refine Z.goto hX 102 dX4_completeRoot_98 (by decide) ?_
              refine Z.pick [0, 1, 2, 3, 4, 5] rfl ?_
              exact key_102 _ (by omega)
      refine Z.pick [0, 1, 2, 3, 5, 4] rfl ?_
      exact key_78 _ _ _ _ (Nat.lt_succ_self _) (by omega) r1 (fun j_ h_38 h_39 => ((r2 j_ h_38 h_39).trans rfl))
    · intro c10
      refine Z.iconst hX dX4_completeRoot_49 ?_
      exact hR _ _ _ _ dX4_completeRoot_50 rfl ⟨0, B, J, rfl, rfl, hB, (fun _ _ _ => rfl), (by omega)⟩
  · intro c2
    refine Z.iconst hX dX4_completeRoot_12 ?_
    exact hR _ _ _ _ dX4_completeRoot_13 rfl ⟨0, B, J, rfl, rfl, hB, (fun _ _ _ => rfl), (by omega)⟩

theorem dX4_findRoot_0 : decode cX4_findRoot 0 = .ok (.aload_n 0, 1) := by decide +kernel
theorem dX4_findRoot_1 : decode cX4_findRoot 1 = .ok (.getfield 10, 3) := by decide +kernel
theorem dX4_findRoot_4 : decode cX4_findRoot 4 = .ok (.aload_n 1, 1) := by decide +kernel
theorem dX4_findRoot_5 : decode cX4_findRoot 5 = .ok (.invokevirtual 25, 3) := by decide +kernel
theorem dX4_findRoot_8 : decode cX4_findRoot 8 = .ok (.aload_n 0, 1) := by decide +kernel
theorem dX4_findRoot_9 : decode cX4_findRoot 9 = .ok (.getfield 10, 3) := by decide +kernel
theorem dX4_findRoot_12 : decode cX4_findRoot 12 = .ok (.invokevirtual 29, 3) := by decide +kernel
theorem dX4_findRoot_15 : decode cX4_findRoot 15 = .ok (.aload_n 0, 1) := by decide +kernel
theorem dX4_findRoot_16 : decode cX4_findRoot 16 = .ok (.getfield 10, 3) := by decide +kernel
theorem dX4_findRoot_19 : decode cX4_findRoot 19 = .ok (.getfield 32, 3) := by decide +kernel
theorem dX4_findRoot_22 : decode cX4_findRoot 22 = .ok (.iconst 1, 1) := by decide +kernel
theorem dX4_findRoot_23 : decode cX4_findRoot 23 = .ok (.if_icmp .ge 5, 3) := by decide +kernel
theorem dX4_findRoot_26 : decode cX4_findRoot 26 = .ok (.iconst 0, 1) := by decide +kernel
theorem dX4_findRoot_27 : decode cX4_findRoot 27 = .ok (.ireturn, 1) := by decide +kernel
theorem dX4_findRoot_28 : decode cX4_findRoot 28 = .ok (.aload_n 0, 1) := by decide +kernel
theorem dX4_findRoot_29 : decode cX4_findRoot 29 = .ok (.getfield 10, 3) := by decide +kernel
theorem dX4_findRoot_32 : decode cX4_findRoot 32 = .ok (.getfield 32, 3) := by decide +kernel
theorem dX4_findRoot_35 : decode cX4_findRoot 35 = .ok (.istore_n 3, 1) := by decide +kernel
theorem dX4_findRoot_36 : decode cX4_findRoot 36 = .ok (.iload_n 3, 1) := by decide +kernel
theorem dX4_findRoot_37 : decode cX4_findRoot 37 = .ok (.iconst 1, 1) := by decide +kernel
theorem dX4_findRoot_38 : decode cX4_findRoot 38 = .ok (.if_icmp .le 39, 3) := by decide +kernel
theorem dX4_findRoot_41 : decode cX4_findRoot 41 = .ok (.aload_n 0, 1) := by decide +kernel
theorem dX4_findRoot_42 : decode cX4_findRoot 42 = .ok (.iload_n 3, 1) := by decide +kernel
theorem dX4_findRoot_43 : decode cX4_findRoot 43 = .ok (.invokevirtual 36, 3) := by decide +kernel
theorem dX4_findRoot_46 : decode cX4_findRoot 46 = .ok (.ifCond .eq 25, 3) := by decide +kernel
theorem dX4_findRoot_49 : decode cX4_findRoot 49 = .ok (.aload_n 0, 1) := by decide +kernel
theorem dX4_findRoot_50 : decode cX4_findRoot 50 = .ok (.iload_n 3, 1) := by decide +kernel
theorem dX4_findRoot_51 : decode cX4_findRoot 51 = .ok (.invokevirtual 40, 3) := by decide +kernel
theorem dX4_findRoot_54 : decode cX4_findRoot 54 = .ok (.ifCond .eq 17, 3) := by decide +kernel
theorem dX4_findRoot_57 : decode cX4_findRoot 57 = .ok (.aload_n 0, 1) := by decide +kernel
theorem dX4_findRoot_58 : decode cX4_findRoot 58 = .ok (.getfield 19, 3) := by decide +kernel
theorem dX4_findRoot_61 : decode cX4_findRoot 61 = .ok (.aload_n 0, 1) := by decide +kernel
theorem dX4_findRoot_62 : decode cX4_findRoot 62 = .ok (.getfield 10, 3) := by decide +kernel
theorem dX4_findRoot_65 : decode cX4_findRoot 65 = .ok (.invokevirtual 43, 3) := by decide +kernel
theorem dX4_findRoot_68 : decode cX4_findRoot 68 = .ok (.ifCond .ne 9, 3) := by decide +kernel
theorem dX4_findRoot_71 : decode cX4_findRoot 71 = .ok (.iinc 3 (-1), 3) := by decide +kernel
theorem dX4_findRoot_74 : decode cX4_findRoot 74 = .ok (.goto (-38), 3) := by decide +kernel
theorem dX4_findRoot_77 : decode cX4_findRoot 77 = .ok (.aload_n 2, 1) := by decide +kernel
theorem dX4_findRoot_78 : decode cX4_findRoot 78 = .ok (.getfield 47, 3) := by decide +kernel
theorem dX4_findRoot_81 : decode cX4_findRoot 81 = .ok (.iload_n 3, 1) := by decide +kernel
theorem dX4_findRoot_82 : decode cX4_findRoot 82 = .ok (.iconst 1, 1) := by decide +kernel
theorem dX4_findRoot_83 : decode cX4_findRoot 83 = .ok (.if_icmp .le 10, 3) := by decide +kernel
theorem dX4_findRoot_86 : decode cX4_findRoot 86 = .ok (.aload_n 0, 1) := by decide +kernel
theorem dX4_findRoot_87 : decode cX4_findRoot 87 = .ok (.getfield 16, 3) := by decide +kernel
theorem dX4_findRoot_90 : decode cX4_findRoot 90 = .ok (.goto 7, 3) := by decide +kernel
theorem dX4_findRoot_93 : decode cX4_findRoot 93 = .ok (.aload_n 0, 1) := by decide +kernel
theorem dX4_findRoot_94 : decode cX4_findRoot 94 = .ok (.getfield 10, 3) := by decide +kernel
theorem dX4_findRoot_97 : decode cX4_findRoot 97 = .ok (.invokevirtual 25, 3) := by decide +kernel
theorem dX4_findRoot_100 : decode cX4_findRoot 100 = .ok (.aload_n 2, 1) := by decide +kernel
theorem dX4_findRoot_101 : decode cX4_findRoot 101 = .ok (.iload_n 3, 1) := by decide +kernel
theorem dX4_findRoot_102 : decode cX4_findRoot 102 = .ok (.putfield 50, 3) := by decide +kernel
theorem dX4_findRoot_105 : decode cX4_findRoot 105 = .ok (.iconst 1, 1) := by decide +kernel
theorem dX4_findRoot_106 : decode cX4_findRoot 106 = .ok (.ireturn, 1) := by decide +kernel
set_option maxHeartbeats 4000000 in
set_option maxRecDepth 100000 in
theorem ct_X4_findRoot_l (l : Launch) (D : va_G) (ce : Nat → ClassId) (h pl ar : Nat → Nat) (G : Nat → Int) (L : Nat → Nat → Int64) (B : Nat → Int) (J : Nat → Nat → Int64) (k : Nat) (hB : BOK B) (hk : 20 ≤ k ∧ k < 36) : Ct l yX4_findRoot cX4_findRoot 4 (some .boolean) { frames := 4, cells := 0, slots := 0, locals := 116 } 0 0 D (TY ce) [.ref (h 5), .ref (pl k), .ref (h 6)] (cW ce h pl ar G L B J) (QI D (TY ce) (fun r w1 => ∃ z : Int, ∃ G2 : Nat → Int, ∃ B2 : Nat → Int, ∃ J2 : Nat → Nat → Int64, r = zI z ∧ w1 = cW ce h pl ar G2 L B2 J2 ∧ (z = 0 ∨ z = 1) ∧ (BOK B2) ∧ (∀ k, k ≠ 1 → G2 k = G k) ∧ (G2 1 = G 1 ∨ (1 ≤ G2 1 ∧ G2 1 ≤ 6)))) := by
  refine Ct.ofB (by decide) (Nat.le_of_ble_eq_true rfl) ?_
  intro p e s m args below meth c A Q hX hnm hR
  refine Z.pick (lv' := [(0, .ref (h 5)), (1, .ref (pl k)), (2, .ref (h 6))]) [0, 1, 2] rfl ?_
  refine Z.aload_n hX dX4_findRoot_0 rfl rfl ?_
  refine Z.getf hX 4 5 0 dX4_findRoot_1 rfl rfl inX4 (by decide) fl_X4_10 rfl rfl ?_
  refine Z.aload_n hX dX4_findRoot_4 rfl rfl ?_
  refine Z.callVfv (As := [.ref (pl k)]) (rest := []) hX 3 (24 + 36) rfl (cW_pl (by decide)) (ct_X3_copy l D ce h pl ar G L B J 36 k (by decide) hB (by omega)) mc_X3_copy ml_X4_25 im_X3_copy se_X3_copy ini_X3 nd_X3_copy ⟨Nat.le_of_ble_eq_true rfl, Nat.le_of_ble_eq_true rfl⟩ ⟨rfl, rfl⟩ ⟨Nat.le_refl _, Nat.le_refl _⟩ rfl (Nat.le_of_ble_eq_true rfl) dX4_findRoot_5 ?_
  rintro w1 ⟨B22, J23, hw_, a1, a2, a3, a4⟩
  subst hw_
  refine Z.aload_n hX dX4_findRoot_8 rfl rfl ?_
  refine Z.getf hX 4 5 0 dX4_findRoot_9 rfl rfl inX4 (by decide) fl_X4_10 rfl rfl ?_
  refine Z.callVfv (As := []) (rest := []) hX 3 (24 + 36) rfl (cW_pl (by decide)) (ct_X3_makePrimitive l D ce h pl ar G L B22 J23 36 (by decide) a3) mc_X3_makePrimitive ml_X4_29 im_X3_makePrimitive se_X3_makePrimitive ini_X3 nd_X3_makePrimitive ⟨Nat.le_of_ble_eq_true rfl, Nat.le_of_ble_eq_true rfl⟩ ⟨rfl, rfl⟩ ⟨Nat.le_refl _, Nat.le_refl _⟩ rfl (Nat.le_of_ble_eq_true rfl) dX4_findRoot_12 ?_
  rintro w1 ⟨Bp, J25, hw_, b1, b2, b3, b4⟩
  subst hw_
  have hb36 := b3 36 (by decide)
  refine Z.aload_n hX dX4_findRoot_15 rfl rfl ?_
  refine Z.getf hX 4 5 0 dX4_findRoot_16 rfl rfl inX4 (by decide) fl_X4_10 rfl rfl ?_
  refine Z.getf hX 3 (24 + 36) 1 dX4_findRoot_19 (cW_pl (by decide)) rfl inX3 (by decide) fl_X4_32 rfl rfl ?_
  refine Z.iconst hX dX4_findRoot_22 ?_
  refine Z.icmp_ge hX 28 dX4_findRoot_23 (by decide) ⟨by omega, by omega⟩ ⟨by omega, by omega⟩ ?_ ?_
  · intro c6
    have key_77 : ∀ (pw : Int) (BB : Nat → Int) (MM : Nat → Nat → Int64), (hp : 1 ≤ pw ∧ pw ≤ 6) → (hM : BOK BB) → Z p l e { frames := 4, cells := 0, slots := 0, locals := 116 } s m args below meth c D A 4 0 0 Q 77 [(3, .int (zI pw)), (2, .ref (h 6)), (0, .ref (h 5))] [] (cW ce h pl ar G L BB MM) := by
      intro pw BB MM hp hM
      refine Z.aload_n hX dX4_findRoot_77 rfl rfl ?_
      refine Z.getf hX 0 6 0 dX4_findRoot_78 rfl rfl inX0 (by decide) fl_X4_47 rfl rfl ?_
      refine Z.iload_n hX dX4_findRoot_81 rfl rfl ?_
      refine Z.iconst hX dX4_findRoot_82 ?_
      refine Z.icmp_le hX 93 dX4_findRoot_83 (by decide) ⟨by omega, by omega⟩ ⟨by omega, by omega⟩ ?_ ?_
      · intro c7
        refine Z.aload_n hX dX4_findRoot_93 rfl rfl ?_
        refine Z.getf hX 4 5 0 dX4_findRoot_94 rfl rfl inX4 (by decide) fl_X4_10 rfl rfl ?_
        refine Z.callVfv (As := [.ref (pl 36)]) (rest := []) hX 3 (24 + 40) rfl (cW_pl (by decide)) (ct_X3_copy l D ce h pl ar G L BB MM 40 36 (by decide) hM (by decide)) mc_X3_copy ml_X4_25 im_X3_copy se_X3_copy ini_X3 nd_X3_copy ⟨Nat.le_of_ble_eq_true rfl, Nat.le_of_ble_eq_true rfl⟩ ⟨rfl, rfl⟩ ⟨Nat.le_refl _, Nat.le_refl _⟩ rfl (Nat.le_of_ble_eq_true rfl) dX4_findRoot_97 ?_
        rintro w1 ⟨B29, J210, hw_, f1, f2, f3, f4⟩
        subst hw_
        refine Z.aload_n hX dX4_findRoot_100 rfl rfl ?_
        refine Z.iload_n hX dX4_findRoot_101 rfl rfl ?_
        refine Z.putf (ty := .int) hX 0 6 1 tyX0 dX4_findRoot_102 rfl rfl inX0 tyX0_ok nmX0 (by decide) fl_X4_50 rfl rfl (by decide +kernel) rfl rfl (Nat.le_of_ble_eq_true rfl) ?_
        obtain ⟨G11, eG11⟩ : ∃ F' : Nat → Int, F' = va_up G 1 (pw) := ⟨_, rfl⟩
        refine Z.toW (w' := cW ce h pl ar G11 L B29 J210) (by rw [eG11]; rfl) ?_
        have gG11 : G11 1 = pw := by rw [eG11]; exact up_eq
        have fG11 : ∀ j_, j_ ≠ 1 → G11 j_ = G j_ := fun j_ hj_ => by rw [eG11]; exact up_ne hj_
        refine Z.iconst hX dX4_findRoot_105 ?_
        exact hR _ _ _ _ dX4_findRoot_106 rfl ⟨1, G11, B29, J210, rfl, rfl, (by omega), f3, (fun j_ h_1 => ((fG11 j_ h_1).trans rfl)), Or.inr (by omega)⟩
      · intro c7
        refine Z.aload_n hX dX4_findRoot_86 rfl rfl ?_
        refine Z.getf hX 4 5 1 dX4_findRoot_87 rfl rfl inX4 (by decide) fl_X4_16 rfl rfl ?_
        refine Z.goto hX 97 dX4_findRoot_90 (by decide) ?_
        refine Z.callVfv (As := [.ref (pl 37)]) (rest := []) hX 3 (24 + 40) rfl (cW_pl (by decide)) (ct_X3_copy l D ce h pl ar G L BB MM 40 37 (by decide) hM (by decide)) mc_X3_copy ml_X4_25 im_X3_copy se_X3_copy ini_X3 nd_X3_copy ⟨Nat.le_of_ble_eq_true rfl, Nat.le_of_ble_eq_true rfl⟩ ⟨rfl, rfl⟩ ⟨Nat.le_refl _, Nat.le_refl _⟩ rfl (Nat.le_of_ble_eq_true rfl) dX4_findRoot_97 ?_
        rintro w1 ⟨B213, J214, hw_, f1, f2, f3, f4⟩
        subst hw_
        refine Z.aload_n hX dX4_findRoot_100 rfl rfl ?_
        refine Z.iload_n hX dX4_findRoot_101 rfl rfl ?_
        refine Z.putf (ty := .int) hX 0 6 1 tyX0 dX4_findRoot_102 rfl rfl inX0 tyX0_ok nmX0 (by decide) fl_X4_50 rfl rfl (by decide +kernel) rfl rfl (Nat.le_of_ble_eq_true rfl) ?_
        obtain ⟨G15, eG15⟩ : ∃ F' : Nat → Int, F' = va_up G 1 (pw) := ⟨_, rfl⟩
        refine Z.toW (w' := cW ce h pl ar G15 L B213 J214) (by rw [eG15]; rfl) ?_
        have gG15 : G15 1 = pw := by rw [eG15]; exact up_eq
        have fG15 : ∀ j_, j_ ≠ 1 → G15 j_ = G j_ := fun j_ hj_ => by rw [eG15]; exact up_ne hj_
        refine Z.iconst hX dX4_findRoot_105 ?_
        exact hR _ _ _ _ dX4_findRoot_106 rfl ⟨1, G15, B213, J214, rfl, rfl, (by omega), f3, (fun j_ h_1 => ((fG15 j_ h_1).trans rfl)), Or.inr (by omega)⟩
    refine Z.aload_n hX dX4_findRoot_28 rfl rfl ?_
    refine Z.getf hX 4 5 0 dX4_findRoot_29 rfl rfl inX4 (by decide) fl_X4_10 rfl rfl ?_
    refine Z.getf hX 3 (24 + 36) 1 dX4_findRoot_32 (cW_pl (by decide)) rfl inX3 (by decide) fl_X4_32 rfl rfl ?_
    refine Z.istore_n (lv' := [(3, .int (zI (Bp 36))), (0, .ref (h 5)), (1, .ref (pl k)), (2, .ref (h 6))]) hX dX4_findRoot_35 rfl (by decide) rfl ?_
    have key_36 : ∀ (N : Nat), ∀ (pw : Int) (BB : Nat → Int) (MM : Nat → Nat → Int64), pw.toNat < N → (hp : 1 ≤ pw ∧ pw ≤ 6) → (hM : BOK BB) → Z p l e { frames := 4, cells := 0, slots := 0, locals := 116 } s m args below meth c D A 4 0 0 Q 36 [(3, .int (zI pw)), (2, .ref (h 6)), (0, .ref (h 5))] [] (cW ce h pl ar G L BB MM) := by
      intro N
      induction N with
      | zero => intro pw BB MM hm; exact absurd hm (Nat.not_lt_zero _)
      | succ N ih_36 =>
        intro pw BB MM hm hp hM
        refine Z.iload_n hX dX4_findRoot_36 rfl rfl ?_
        refine Z.iconst hX dX4_findRoot_37 ?_
        refine Z.icmp_le hX 77 dX4_findRoot_38 (by decide) ⟨by omega, by omega⟩ ⟨by omega, by omega⟩ ?_ ?_
        · intro c16
          refine Z.pick [0, 1, 2] rfl ?_
          exact key_77 _ _ _ (by omega) hM
        · intro c16
          refine Z.aload_n hX dX4_findRoot_41 rfl rfl ?_
          refine Z.iload_n hX dX4_findRoot_42 rfl rfl ?_
          refine Z.callVfi (As := [.int (zI pw)]) (rest := []) hX 4 5 rfl rfl (ct_X4_startRoot l D ce h pl ar G L BB MM pw hM (by omega)) mc_X4_startRoot ml_X4_36 im_X4_startRoot se_X4_startRoot ini_X4 nd_X4_startRoot ⟨Nat.le_of_ble_eq_true rfl, Nat.le_of_ble_eq_true rfl⟩ ⟨rfl, rfl⟩ ⟨Nat.le_refl _, Nat.le_refl _⟩ rfl (Nat.le_of_ble_eq_true rfl) dX4_findRoot_43 ?_
          rintro r_17 w1 ⟨z18, B219, J220, hr_, hw_, c1, c2, c3⟩
          subst hr_
          subst hw_
          refine Z.if_eq hX 71 dX4_findRoot_46 (by decide) ⟨by omega, by omega⟩ ?_ ?_
          · intro c21
            refine Z.iinc (lv' := [(3, .int (zI (pw + -1))), (2, .ref (h 6)), (0, .ref (h 5))]) hX dX4_findRoot_71 rfl (by decide) rfl ?_
            refine Z.goto hX 36 dX4_findRoot_74 (by decide) ?_
            refine Z.pick [0, 1, 2] rfl ?_
            exact ih_36 _ _ _ (by omega) (by omega) c1
          · intro c21
            refine Z.aload_n hX dX4_findRoot_49 rfl rfl ?_
            refine Z.iload_n hX dX4_findRoot_50 rfl rfl ?_
            refine Z.callVfi (As := [.int (zI pw)]) (rest := []) hX 4 5 rfl rfl (ct_X4_completeRoot l D ce h pl ar G L B219 J220 pw c1 (by omega) (by omega)) mc_X4_completeRoot ml_X4_40 im_X4_completeRoot se_X4_completeRoot ini_X4 nd_X4_completeRoot ⟨Nat.le_of_ble_eq_true rfl, Nat.le_of_ble_eq_true rfl⟩ ⟨rfl, rfl⟩ ⟨Nat.le_refl _, Nat.le_refl _⟩ rfl (Nat.le_of_ble_eq_true rfl) dX4_findRoot_51 ?_
            rintro r_22 w1 ⟨z23, B224, J225, hr_, hw_, d1, d2, d3⟩
            subst hr_
            subst hw_
            refine Z.if_eq hX 71 dX4_findRoot_54 (by decide) ⟨by omega, by omega⟩ ?_ ?_
            · intro c26
              refine Z.iinc (lv' := [(3, .int (zI (pw + -1))), (2, .ref (h 6)), (0, .ref (h 5))]) hX dX4_findRoot_71 rfl (by decide) rfl ?_
              refine Z.goto hX 36 dX4_findRoot_74 (by decide) ?_
              refine Z.pick [0, 1, 2] rfl ?_
              exact ih_36 _ _ _ (by omega) (by omega) d1
            · intro c26
              refine Z.aload_n hX dX4_findRoot_57 rfl rfl ?_
              refine Z.getf hX 4 5 2 dX4_findRoot_58 rfl rfl inX4 (by decide) fl_X4_19 rfl rfl ?_
              refine Z.aload_n hX dX4_findRoot_61 rfl rfl ?_
              refine Z.getf hX 4 5 0 dX4_findRoot_62 rfl rfl inX4 (by decide) fl_X4_10 rfl rfl ?_
              refine Z.callVfi (As := [.ref (pl 36)]) (rest := []) hX 3 (24 + 38) rfl (cW_pl (by decide)) (ct_X3_isSame l D ce h pl ar G L B224 J225 38 36 (by decide) d1 (by decide)) mc_X3_isSame ml_X4_43 im_X3_isSame se_X3_isSame ini_X3 nd_X3_isSame ⟨Nat.le_of_ble_eq_true rfl, Nat.le_of_ble_eq_true rfl⟩ ⟨rfl, rfl⟩ ⟨Nat.le_refl _, Nat.le_refl _⟩ rfl (Nat.le_of_ble_eq_true rfl) dX4_findRoot_65 ?_
              rintro r_27 w1 ⟨z28, hr_, hw_, hq29⟩
              subst hr_
              subst hw_
              refine Z.if_ne hX 77 dX4_findRoot_68 (by decide) ⟨by omega, by omega⟩ ?_ ?_
              · intro c30
                refine Z.pick [0, 1, 2] rfl ?_
                exact key_77 _ _ _ (by omega) d1
              · intro c30
                refine Z.iinc (lv' := [(3, .int (zI (pw + -1))), (2, .ref (h 6)), (0, .ref (h 5))]) hX dX4_findRoot_71 rfl (by decide) rfl ?_
                refine Z.goto hX 36 dX4_findRoot_74 (by decide) ?_
                refine Z.pick [0, 1, 2] rfl ?_
                exact ih_36 _ _ _ (by omega) (by omega) d1
    refine Z.pick [0, 3, 1] rfl ?_
    exact key_36 _ _ _ _ (Nat.lt_succ_self _) (by omega) b3
  · intro c6
    refine Z.iconst hX dX4_findRoot_26 ?_
    exact hR _ _ _ _ dX4_findRoot_27 rfl ⟨0, G, Bp, J25, rfl, rfl, (by omega), b3, (fun _ _ => rfl), Or.inl rfl⟩

set_option maxHeartbeats 4000000 in
set_option maxRecDepth 100000 in
theorem ct_X4_findRoot_e (l : Launch) (D : va_G) (ce : Nat → ClassId) (h pl ar : Nat → Nat) (G : Nat → Int) (L : Nat → Nat → Int64) (B : Nat → Int) (J : Nat → Nat → Int64) (k : Nat) (hB : BOK B) (hk : 20 ≤ k ∧ k < 36) : Ct l yX4_findRoot cX4_findRoot 4 (some .boolean) { frames := 4, cells := 0, slots := 0, locals := 116 } 0 0 D (TY ce) [.ref (h 5), .ref (pl k), .ref (h 7)] (cW ce h pl ar G L B J) (QI D (TY ce) (fun r w1 => ∃ z : Int, ∃ G2 : Nat → Int, ∃ B2 : Nat → Int, ∃ J2 : Nat → Nat → Int64, r = zI z ∧ w1 = cW ce h pl ar G2 L B2 J2 ∧ (z = 0 ∨ z = 1) ∧ (BOK B2) ∧ (∀ k, k ≠ 4 → G2 k = G k) ∧ (G2 4 = G 4 ∨ (1 ≤ G2 4 ∧ G2 4 ≤ 6)))) := by
  refine Ct.ofB (by decide) (Nat.le_of_ble_eq_true rfl) ?_
  intro p e s m args below meth c A Q hX hnm hR
  refine Z.pick (lv' := [(0, .ref (h 5)), (1, .ref (pl k)), (2, .ref (h 7))]) [0, 1, 2] rfl ?_
  refine Z.aload_n hX dX4_findRoot_0 rfl rfl ?_
  refine Z.getf hX 4 5 0 dX4_findRoot_1 rfl rfl inX4 (by decide) fl_X4_10 rfl rfl ?_
  refine Z.aload_n hX dX4_findRoot_4 rfl rfl ?_
  refine Z.callVfv (As := [.ref (pl k)]) (rest := []) hX 3 (24 + 36) rfl (cW_pl (by decide)) (ct_X3_copy l D ce h pl ar G L B J 36 k (by decide) hB (by omega)) mc_X3_copy ml_X4_25 im_X3_copy se_X3_copy ini_X3 nd_X3_copy ⟨Nat.le_of_ble_eq_true rfl, Nat.le_of_ble_eq_true rfl⟩ ⟨rfl, rfl⟩ ⟨Nat.le_refl _, Nat.le_refl _⟩ rfl (Nat.le_of_ble_eq_true rfl) dX4_findRoot_5 ?_
  rintro w1 ⟨B22, J23, hw_, a1, a2, a3, a4⟩
  subst hw_
  refine Z.aload_n hX dX4_findRoot_8 rfl rfl ?_
  refine Z.getf hX 4 5 0 dX4_findRoot_9 rfl rfl inX4 (by decide) fl_X4_10 rfl rfl ?_
  refine Z.callVfv (As := []) (rest := []) hX 3 (24 + 36) rfl (cW_pl (by decide)) (ct_X3_makePrimitive l D ce h pl ar G L B22 J23 36 (by decide) a3) mc_X3_makePrimitive ml_X4_29 im_X3_makePrimitive se_X3_makePrimitive ini_X3 nd_X3_makePrimitive ⟨Nat.le_of_ble_eq_true rfl, Nat.le_of_ble_eq_true rfl⟩ ⟨rfl, rfl⟩ ⟨Nat.le_refl _, Nat.le_refl _⟩ rfl (Nat.le_of_ble_eq_true rfl) dX4_findRoot_12 ?_
  rintro w1 ⟨Bp, J25, hw_, b1, b2, b3, b4⟩
  subst hw_
  have hb36 := b3 36 (by decide)
  refine Z.aload_n hX dX4_findRoot_15 rfl rfl ?_
  refine Z.getf hX 4 5 0 dX4_findRoot_16 rfl rfl inX4 (by decide) fl_X4_10 rfl rfl ?_
  refine Z.getf hX 3 (24 + 36) 1 dX4_findRoot_19 (cW_pl (by decide)) rfl inX3 (by decide) fl_X4_32 rfl rfl ?_
  refine Z.iconst hX dX4_findRoot_22 ?_
  refine Z.icmp_ge hX 28 dX4_findRoot_23 (by decide) ⟨by omega, by omega⟩ ⟨by omega, by omega⟩ ?_ ?_
  · intro c6
    have key_77 : ∀ (pw : Int) (BB : Nat → Int) (MM : Nat → Nat → Int64), (hp : 1 ≤ pw ∧ pw ≤ 6) → (hM : BOK BB) → Z p l e { frames := 4, cells := 0, slots := 0, locals := 116 } s m args below meth c D A 4 0 0 Q 77 [(3, .int (zI pw)), (2, .ref (h 7)), (0, .ref (h 5))] [] (cW ce h pl ar G L BB MM) := by
      intro pw BB MM hp hM
      refine Z.aload_n hX dX4_findRoot_77 rfl rfl ?_
      refine Z.getf hX 0 7 0 dX4_findRoot_78 rfl rfl inX0 (by decide) fl_X4_47 rfl rfl ?_
      refine Z.iload_n hX dX4_findRoot_81 rfl rfl ?_
      refine Z.iconst hX dX4_findRoot_82 ?_
      refine Z.icmp_le hX 93 dX4_findRoot_83 (by decide) ⟨by omega, by omega⟩ ⟨by omega, by omega⟩ ?_ ?_
      · intro c7
        refine Z.aload_n hX dX4_findRoot_93 rfl rfl ?_
        refine Z.getf hX 4 5 0 dX4_findRoot_94 rfl rfl inX4 (by decide) fl_X4_10 rfl rfl ?_
        refine Z.callVfv (As := [.ref (pl 36)]) (rest := []) hX 3 (24 + 41) rfl (cW_pl (by decide)) (ct_X3_copy l D ce h pl ar G L BB MM 41 36 (by decide) hM (by decide)) mc_X3_copy ml_X4_25 im_X3_copy se_X3_copy ini_X3 nd_X3_copy ⟨Nat.le_of_ble_eq_true rfl, Nat.le_of_ble_eq_true rfl⟩ ⟨rfl, rfl⟩ ⟨Nat.le_refl _, Nat.le_refl _⟩ rfl (Nat.le_of_ble_eq_true rfl) dX4_findRoot_97 ?_
        rintro w1 ⟨B29, J210, hw_, f1, f2, f3, f4⟩
        subst hw_
        refine Z.aload_n hX dX4_findRoot_100 rfl rfl ?_
        refine Z.iload_n hX dX4_findRoot_101 rfl rfl ?_
        refine Z.putf (ty := .int) hX 0 7 1 tyX0 dX4_findRoot_102 rfl rfl inX0 tyX0_ok nmX0 (by decide) fl_X4_50 rfl rfl (by decide +kernel) rfl rfl (Nat.le_of_ble_eq_true rfl) ?_
        obtain ⟨G11, eG11⟩ : ∃ F' : Nat → Int, F' = va_up G 4 (pw) := ⟨_, rfl⟩
        refine Z.toW (w' := cW ce h pl ar G11 L B29 J210) (by rw [eG11]; rfl) ?_
        have gG11 : G11 4 = pw := by rw [eG11]; exact up_eq
        have fG11 : ∀ j_, j_ ≠ 4 → G11 j_ = G j_ := fun j_ hj_ => by rw [eG11]; exact up_ne hj_
        refine Z.iconst hX dX4_findRoot_105 ?_
        exact hR _ _ _ _ dX4_findRoot_106 rfl ⟨1, G11, B29, J210, rfl, rfl, (by omega), f3, (fun j_ h_4 => ((fG11 j_ h_4).trans rfl)), Or.inr (by omega)⟩
      · intro c7
        refine Z.aload_n hX dX4_findRoot_86 rfl rfl ?_
        refine Z.getf hX 4 5 1 dX4_findRoot_87 rfl rfl inX4 (by decide) fl_X4_16 rfl rfl ?_
        refine Z.goto hX 97 dX4_findRoot_90 (by decide) ?_
        refine Z.callVfv (As := [.ref (pl 37)]) (rest := []) hX 3 (24 + 41) rfl (cW_pl (by decide)) (ct_X3_copy l D ce h pl ar G L BB MM 41 37 (by decide) hM (by decide)) mc_X3_copy ml_X4_25 im_X3_copy se_X3_copy ini_X3 nd_X3_copy ⟨Nat.le_of_ble_eq_true rfl, Nat.le_of_ble_eq_true rfl⟩ ⟨rfl, rfl⟩ ⟨Nat.le_refl _, Nat.le_refl _⟩ rfl (Nat.le_of_ble_eq_true rfl) dX4_findRoot_97 ?_
        rintro w1 ⟨B213, J214, hw_, f1, f2, f3, f4⟩
        subst hw_
        refine Z.aload_n hX dX4_findRoot_100 rfl rfl ?_
        refine Z.iload_n hX dX4_findRoot_101 rfl rfl ?_
        refine Z.putf (ty := .int) hX 0 7 1 tyX0 dX4_findRoot_102 rfl rfl inX0 tyX0_ok nmX0 (by decide) fl_X4_50 rfl rfl (by decide +kernel) rfl rfl (Nat.le_of_ble_eq_true rfl) ?_
        obtain ⟨G15, eG15⟩ : ∃ F' : Nat → Int, F' = va_up G 4 (pw) := ⟨_, rfl⟩
        refine Z.toW (w' := cW ce h pl ar G15 L B213 J214) (by rw [eG15]; rfl) ?_
        have gG15 : G15 4 = pw := by rw [eG15]; exact up_eq
        have fG15 : ∀ j_, j_ ≠ 4 → G15 j_ = G j_ := fun j_ hj_ => by rw [eG15]; exact up_ne hj_
        refine Z.iconst hX dX4_findRoot_105 ?_
        exact hR _ _ _ _ dX4_findRoot_106 rfl ⟨1, G15, B213, J214, rfl, rfl, (by omega), f3, (fun j_ h_4 => ((fG15 j_ h_4).trans rfl)), Or.inr (by omega)⟩
    refine Z.aload_n hX dX4_findRoot_28 rfl rfl ?_
    refine Z.getf hX 4 5 0 dX4_findRoot_29 rfl rfl inX4 (by decide) fl_X4_10 rfl rfl ?_
    refine Z.getf hX 3 (24 + 36) 1 dX4_findRoot_32 (cW_pl (by decide)) rfl inX3 (by decide) fl_X4_32 rfl rfl ?_
    refine Z.istore_n (lv' := [(3, .int (zI (Bp 36))), (0, .ref (h 5)), (1, .ref (pl k)), (2, .ref (h 7))]) hX dX4_findRoot_35 rfl (by decide) rfl ?_
    have key_36 : ∀ (N : Nat), ∀ (pw : Int) (BB : Nat → Int) (MM : Nat → Nat → Int64), pw.toNat < N → (hp : 1 ≤ pw ∧ pw ≤ 6) → (hM : BOK BB) → Z p l e { frames := 4, cells := 0, slots := 0, locals := 116 } s m args below meth c D A 4 0 0 Q 36 [(3, .int (zI pw)), (2, .ref (h 7)), (0, .ref (h 5))] [] (cW ce h pl ar G L BB MM) := by
      intro N
      induction N with
      | zero => intro pw BB MM hm; exact absurd hm (Nat.not_lt_zero _)
      | succ N ih_36 =>
        intro pw BB MM hm hp hM
        refine Z.iload_n hX dX4_findRoot_36 rfl rfl ?_
        refine Z.iconst hX dX4_findRoot_37 ?_
        refine Z.icmp_le hX 77 dX4_findRoot_38 (by decide) ⟨by omega, by omega⟩ ⟨by omega, by omega⟩ ?_ ?_
        · intro c16
          refine Z.pick [0, 1, 2] rfl ?_
          exact key_77 _ _ _ (by omega) hM
        · intro c16
          refine Z.aload_n hX dX4_findRoot_41 rfl rfl ?_
          refine Z.iload_n hX dX4_findRoot_42 rfl rfl ?_
          refine Z.callVfi (As := [.int (zI pw)]) (rest := []) hX 4 5 rfl rfl (ct_X4_startRoot l D ce h pl ar G L BB MM pw hM (by omega)) mc_X4_startRoot ml_X4_36 im_X4_startRoot se_X4_startRoot ini_X4 nd_X4_startRoot ⟨Nat.le_of_ble_eq_true rfl, Nat.le_of_ble_eq_true rfl⟩ ⟨rfl, rfl⟩ ⟨Nat.le_refl _, Nat.le_refl _⟩ rfl (Nat.le_of_ble_eq_true rfl) dX4_findRoot_43 ?_
          rintro r_17 w1 ⟨z18, B219, J220, hr_, hw_, c1, c2, c3⟩
          subst hr_
          subst hw_
          refine Z.if_eq hX 71 dX4_findRoot_46 (by decide) ⟨by omega, by omega⟩ ?_ ?_
          · intro c21
            refine Z.iinc (lv' := [(3, .int (zI (pw + -1))), (2, .ref (h 7)), (0, .ref (h 5))]) hX dX4_findRoot_71 rfl (by decide) rfl ?_
            refine Z.goto hX 36 dX4_findRoot_74 (by decide) ?_
            refine Z.pick [0, 1, 2] rfl ?_
            exact ih_36 _ _ _ (by omega) (by omega) c1
          · intro c21
            refine Z.aload_n hX dX4_findRoot_49 rfl rfl ?_
            refine Z.iload_n hX dX4_findRoot_50 rfl rfl ?_
            refine Z.callVfi (As := [.int (zI pw)]) (rest := []) hX 4 5 rfl rfl (ct_X4_completeRoot l D ce h pl ar G L B219 J220 pw c1 (by omega) (by omega)) mc_X4_completeRoot ml_X4_40 im_X4_completeRoot se_X4_completeRoot ini_X4 nd_X4_completeRoot ⟨Nat.le_of_ble_eq_true rfl, Nat.le_of_ble_eq_true rfl⟩ ⟨rfl, rfl⟩ ⟨Nat.le_refl _, Nat.le_refl _⟩ rfl (Nat.le_of_ble_eq_true rfl) dX4_findRoot_51 ?_
            rintro r_22 w1 ⟨z23, B224, J225, hr_, hw_, d1, d2, d3⟩
            subst hr_
            subst hw_
            refine Z.if_eq hX 71 dX4_findRoot_54 (by decide) ⟨by omega, by omega⟩ ?_ ?_
            · intro c26
              refine Z.iinc (lv' := [(3, .int (zI (pw + -1))), (2, .ref (h 7)), (0, .ref (h 5))]) hX dX4_findRoot_71 rfl (by decide) rfl ?_
              refine Z.goto hX 36 dX4_findRoot_74 (by decide) ?_
              refine Z.pick [0, 1, 2] rfl ?_
              exact ih_36 _ _ _ (by omega) (by omega) d1
            · intro c26
              refine Z.aload_n hX dX4_findRoot_57 rfl rfl ?_
              refine Z.getf hX 4 5 2 dX4_findRoot_58 rfl rfl inX4 (by decide) fl_X4_19 rfl rfl ?_
              refine Z.aload_n hX dX4_findRoot_61 rfl rfl ?_
              refine Z.getf hX 4 5 0 dX4_findRoot_62 rfl rfl inX4 (by decide) fl_X4_10 rfl rfl ?_
              refine Z.callVfi (As := [.ref (pl 36)]) (rest := []) hX 3 (24 + 38) rfl (cW_pl (by decide)) (ct_X3_isSame l D ce h pl ar G L B224 J225 38 36 (by decide) d1 (by decide)) mc_X3_isSame ml_X4_43 im_X3_isSame se_X3_isSame ini_X3 nd_X3_isSame ⟨Nat.le_of_ble_eq_true rfl, Nat.le_of_ble_eq_true rfl⟩ ⟨rfl, rfl⟩ ⟨Nat.le_refl _, Nat.le_refl _⟩ rfl (Nat.le_of_ble_eq_true rfl) dX4_findRoot_65 ?_
              rintro r_27 w1 ⟨z28, hr_, hw_, hq29⟩
              subst hr_
              subst hw_
              refine Z.if_ne hX 77 dX4_findRoot_68 (by decide) ⟨by omega, by omega⟩ ?_ ?_
              · intro c30
                refine Z.pick [0, 1, 2] rfl ?_
                exact key_77 _ _ _ (by omega) d1
              · intro c30
                refine Z.iinc (lv' := [(3, .int (zI (pw + -1))), (2, .ref (h 7)), (0, .ref (h 5))]) hX dX4_findRoot_71 rfl (by decide) rfl ?_
                refine Z.goto hX 36 dX4_findRoot_74 (by decide) ?_
                refine Z.pick [0, 1, 2] rfl ?_
                exact ih_36 _ _ _ (by omega) (by omega) d1
    refine Z.pick [0, 3, 1] rfl ?_
    exact key_36 _ _ _ _ (Nat.lt_succ_self _) (by omega) b3
  · intro c6
    refine Z.iconst hX dX4_findRoot_26 ?_
    exact hR _ _ _ _ dX4_findRoot_27 rfl ⟨0, G, Bp, J25, rfl, rfl, (by omega), b3, (fun _ _ => rfl), Or.inl rfl⟩
end
section
/-! the class's cells between calls -/
def bl (x : Int) : Prop := x = 0 ∨ x = 1
def cOK (G B : Nat → Int) : Prop := BOK B ∧ bl (G 0) ∧ bl (G 2) ∧ bl (G 3) ∧ bl (G 5) ∧ bl (G 6) ∧ (0 ≤ G 1 ∧ G 1 ≤ 6) ∧ (0 ≤ G 4 ∧ G 4 ≤ 6)
/-- n is the row's greatest power with a coefficient other than 0 -/
def HP (L : Nat → Nat → Int64) (n : Int) : Prop := (0 ≤ n ∧ n ≤ 4) ∧ (∀ k : Int, n < k → k ≤ 4 → L 0 k.toNat = 0 ∧ L 1 k.toNat = 0 ∧ L 2 k.toNat = 0) ∧ (0 < n → ¬ (L 0 n.toNat = 0 ∧ L 1 n.toNat = 0 ∧ L 2 n.toNat = 0))
def wsum (f : Nat → Int64) (u v : Int64) (n : Int) : Nat → Int64
  | 0 => 0
  | k + 1 => wsum f u v n k + f k * lpow u k * lpow v (n - k).toNat
def wOf (f : Nat → Int64) (u v n : Int) : Int64 := wsum f (zL u) (zL v) n (n + 1).toNat
theorem wsum_s {f : Nat → Int64} {n k : Int} {u v x a b : Int64} (hk : 0 ≤ k) (hx : x = wsum f u v n k.toNat) (ha : a = lpow u k.toNat) (hb : b = lpow v (n - k).toNat) : x + f k.toNat * a * b = wsum f u v n (k + 1).toNat := by
  obtain ⟨m, rfl⟩ := Int.eq_ofNat_of_zero_le hk
  have e1 : ((m : Int) + 1).toNat = m + 1 := by omega
  rw [e1]
  show _ = wsum f u v n m + f m * lpow u m * lpow v (n - (m : Int)).toNat
  rw [hx, ha, hb]
  rfl
theorem sp_s {f f' g : Nat → Int64} {k : Int} {x : Int64} (hk : 0 ≤ k) (e : f' = vp_updL f k.toNat x) (hx : x = g k.toNat) (h : ∀ q : Int, 0 ≤ q → q < k → f q.toNat = g q.toNat) : ∀ q : Int, 0 ≤ q → q < k + 1 → f' q.toNat = g q.toNat := by
  intro q h1 h2
  rw [e, up_at hk h1]
  by_cases r : q = k
  · rw [if_pos r, r, hx]
  · rw [if_neg r]; exact h q h1 (by omega)
theorem cok_of {G B : Nat → Int} (hB : BOK B) (h0 : G 0 = 0 ∨ G 0 = 1) (h1 : 0 ≤ G 1 ∧ G 1 ≤ 6) (h2 : G 2 = 0 ∨ G 2 = 1) (h3 : G 3 = 0 ∨ G 3 = 1) (h4 : 0 ≤ G 4 ∧ G 4 ≤ 6) (h5 : G 5 = 0 ∨ G 5 = 1) (h6 : G 6 = 0 ∨ G 6 = 1) : cOK G B := ⟨hB, h0, h2, h3, h5, h6, h1, h4⟩
end
