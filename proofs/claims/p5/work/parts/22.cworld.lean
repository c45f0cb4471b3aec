/-! the class's cells: 24 of its own, 42 planes as one family -/
def tri (n : Nat) : Nat := ([0, 1, 2, 3, 1, 4, 5, 6, 2, 5, 7, 8, 3, 6, 8, 9] : List Nat).getD n 0
def cFix (ce : Nat → ClassId) (h pl : Nat → Nat) (G : Nat → Int) (L : Nat → Nat → Int64) : va_W :=
  [(h 0, .inr (6, [.ref (h 1), .ref (h 2), .ref (h 3), .ref (h 4), .ref (h 5), .ref (h 6), .ref (h 7), .ref (h 8), .int (zI (G 0))])), (h 1, .inr (5, [.ref (h 9)])), (h 2, .inr (5, [.ref (h 10)])), (h 3, .inr (1, [.ref (h 11), .ref (h 12), .ref (h 13)])), (h 4, .inr (2, [.ref (h 14), .ref (h 15), .ref (h 16), .ref (h 17)])),
   (h 5, .inr (4, [.ref (pl 36), .ref (pl 37), .ref (pl 38), .ref (pl 39)])), (h 6, .inr (0, [.ref (pl 40), .int (zI (G 1)), .int (zI (G 2)), .int (zI (G 3))])), (h 7, .inr (0, [.ref (pl 41), .int (zI (G 4)), .int (zI (G 5)), .int (zI (G 6))])), (h 8, .inl (ce 1, 3, .inr (.inl (L 9)))),
   (h 9, .inl (ce 3, 3, .inr (.inr (.inr (.inr (fun i => some (h (18 + i)))))))), (h 10, .inl (ce 3, 3, .inr (.inr (.inr (.inr (fun i => some (h (18 + (3 + i))))))))), (h 11, .inl (ce 1, 5, .inr (.inl (L 6)))), (h 12, .inl (ce 1, 5, .inr (.inl (L 7)))), (h 13, .inl (ce 1, 5, .inr (.inl (L 8)))),
   (h 14, .inl (ce 4, 5, .inr (.inr (.inr (.inr (fun i => some (pl i))))))), (h 15, .inl (ce 4, 5, .inr (.inr (.inr (.inr (fun i => some (pl (5 + i)))))))), (h 16, .inl (ce 4, 16, .inr (.inr (.inr (.inr (fun i => some (pl (10 + tri i)))))))), (h 17, .inl (ce 4, 16, .inr (.inr (.inr (.inr (fun i => some (pl (20 + i)))))))),
   (h 18, .inl (ce 1, 5, .inr (.inl (L 0)))), (h 19, .inl (ce 1, 5, .inr (.inl (L 1)))), (h 20, .inl (ce 1, 5, .inr (.inl (L 2)))), (h 21, .inl (ce 1, 5, .inr (.inl (L 3)))), (h 22, .inl (ce 1, 5, .inr (.inl (L 4)))), (h 23, .inl (ce 1, 5, .inr (.inl (L 5))))]
def cPl (pl ar : Nat → Nat) (B : Nat → Int) : va_W := (List.range 42).map (fun k => (pl k, .inr (3, [.ref (ar k), .int (zI (B k))])))
def cAr (ce : Nat → ClassId) (ar : Nat → Nat) (J : Nat → Nat → Int64) : va_W := (List.range 42).map (fun k => (ar k, .inl (ce 1, 28, .inr (.inl (J k)))))
def cW (ce : Nat → ClassId) (h pl ar : Nat → Nat) (G : Nat → Int) (L : Nat → Nat → Int64) (B : Nat → Int) (J : Nat → Nat → Int64) : va_W := cFix ce h pl G L ++ (cPl pl ar B ++ cAr ce ar J)
section CWR
variable {ce : Nat → ClassId} {h pl ar : Nat → Nat} {G : Nat → Int} {L : Nat → Nat → Int64} {B : Nat → Int} {J : Nat → Nat → Int64}
theorem cFix_len : (cFix ce h pl G L).length = 24 := rfl
theorem cPl_len : (cPl pl ar B).length = 42 := by simp [cPl]
theorem cAr_len : (cAr ce ar J).length = 42 := by simp [cAr]
theorem cW_pl {k : Nat} (hk : k < 42) : (cW ce h pl ar G L B J)[24 + k]? = some (pl k, .inr (3, [.ref (ar k), .int (zI (B k))])) := by
  unfold cW
  rw [List.getElem?_append_right (by rw [cFix_len]; omega), cFix_len, List.getElem?_append_left (by rw [cPl_len]; omega)]
  rw [show 24 + k - 24 = k by omega]
  simp [cPl, hk]
theorem cW_ar {k : Nat} (hk : k < 42) : (cW ce h pl ar G L B J)[66 + k]? = some (ar k, .inl (ce 1, 28, .inr (.inl (J k)))) := by
  unfold cW
  rw [List.getElem?_append_right (by rw [cFix_len]; omega), cFix_len, List.getElem?_append_right (by rw [cPl_len]; omega), cPl_len]
  rw [show 66 + k - 24 - 42 = k by omega]
  simp [cAr, hk]
theorem cW_in {k : Nat} (hk : k < 6) : (cW ce h pl ar G L B J)[18 + k]? = some (h (18 + k), .inl (ce 1, 5, .inr (.inl (L k)))) := by
  match k, hk with
  | 0, _ => rfl
  | 1, _ => rfl
  | 2, _ => rfl
  | 3, _ => rfl
  | 4, _ => rfl
  | 5, _ => rfl
theorem cW_setL {k : Nat} (hk : k < 6) {f : Nat → Int64} : (cW ce h pl ar G L B J).set (18 + k) (h (18 + k), .inl (ce 1, 5, .inr (.inl f))) = cW ce h pl ar G (va_up L k f) B J := by
  match k, hk with
  | 0, _ => rfl
  | 1, _ => rfl
  | 2, _ => rfl
  | 3, _ => rfl
  | 4, _ => rfl
  | 5, _ => rfl
theorem mp_set {α : Type} (g : Nat → α) (n k : Nat) (x : α) : ((List.range n).map g).set k x = (List.range n).map (fun j => if j = k then x else g j) := by
  apply List.ext_getElem (by simp)
  intro i h1 h2
  simp at h1
  rw [List.getElem_set]
  simp
  by_cases e : k = i
  · rw [if_pos e, if_pos e.symm]
  · rw [if_neg e, if_neg (fun q => e q.symm)]
theorem cW_setB {k : Nat} (hk : k < 42) {v : Int} : (cW ce h pl ar G L B J).set (24 + k) (pl k, .inr (3, [.ref (ar k), .int (zI v)])) = cW ce h pl ar G L (va_up B k v) J := by
  unfold cW
  rw [List.set_append_right _ _ (by rw [cFix_len]; omega), cFix_len, List.set_append_left _ _ (by rw [cPl_len]; omega), show 24 + k - 24 = k by omega]
  congr 2
  unfold cPl
  rw [mp_set]
  apply List.map_congr_left
  intro j _
  unfold va_up
  by_cases e : j = k
  · rw [if_pos e, if_pos e, e]
  · rw [if_neg e, if_neg e]
theorem cW_setJ {k : Nat} (hk : k < 42) {f : Nat → Int64} : (cW ce h pl ar G L B J).set (66 + k) (ar k, .inl (ce 1, 28, .inr (.inl f))) = cW ce h pl ar G L B (va_up J k f) := by
  unfold cW
  rw [List.set_append_right _ _ (by rw [cFix_len]; omega), cFix_len, List.set_append_right _ _ (by rw [cPl_len]; omega), cPl_len, show 66 + k - 24 - 42 = k by omega]
  congr 2
  unfold cAr
  rw [mp_set]
  apply List.map_congr_left
  intro j _
  unfold va_up
  by_cases e : j = k
  · rw [if_pos e, if_pos e, e]
  · rw [if_neg e, if_neg e]
end CWR
theorem tri_lt (n : Nat) : tri n < 10 := by
  unfold tri
  by_cases h : n < 16
  · have : ∀ m : Fin 16, ([0, 1, 2, 3, 1, 4, 5, 6, 2, 5, 7, 8, 3, 6, 8, 9] : List Nat).getD m.val 0 < 10 := by decide
    exact this ⟨n, h⟩
  · have : ([0, 1, 2, 3, 1, 4, 5, 6, 2, 5, 7, 8, 3, 6, 8, 9] : List Nat)[n]? = none := List.getElem?_eq_none (by simp; omega)
    rw [List.getD_eq_getElem?_getD, this]; decide
section ZR6
variable {p : Program} {l : Launch} {e : Env} {R : Room} {s : State} {m : MethodId} {args : Array Value} {below : List Frame} {meth : Method} {c : Code} {D : va_G} {A : Nat → Prop} {nL cells slots : Nat} {Q : State → Prop}
variable {cc : ByteArray} {own : String} {tys : List (ClassId × FieldType)} {pc : Nat} {lv : List (Nat × Value)} {st : List Value} {w : va_W}
theorem Z.aaload (hX : Zf p m c cc nL s args own D tys A) (q0 t0 : Nat) {a a1 : Nat} {cA : ClassId} {n : Nat} {f : Nat → Option Nat} {z : Int} {ty : FieldType} (hd : decode cc pc = .ok (.aaload, 1)) (ha : w[q0]? = some (a, .inl (cA, n, .inr (.inr (.inr (.inr f)))))) (ht : tys[t0]? = some (cA, ty)) (hty : ty.isReference = true) (h1 : 0 ≤ z) (h2 : z < n) (hn : n < 2147483648) (hf : f z.toNat = some a1) (k : Z p l e R s m args below meth c D A nL cells slots Q (pc + 1) lv (.ref a1 :: st) w) : Z p l e R s m args below meth c D A nL cells slots Q pc lv (.int (zI z) :: .ref a :: st) w := by
  intro H locs ls hP hD hS hv
  have hin := zI_in h1 h2 hn
  have hlt : (zI z).toNatClampNeg < n := Nat.not_le.mp fun q => hin (Or.inr q)
  have hv1 : va_rf (f (zI z).toNatClampNeg) = .ref a1 := by rw [zI_cl h1 (by omega), hf]; rfl
  exact W.aald (v := .ref a1) (ty := ty) hX.1 hX.2.1 (hP q0 _ ha) ((hX.2.2.2.2.2.1.2 t0 _ ht).1 n (fun j => va_rf (f j))) hty (fun q => by cases q) (by show ¬ (zI z < 0 ∨ (arrV _ _ _).slots.size ≤ _); rw [arrV_size]; exact hin) (by show (arrV _ _ _).slots[_]? = _; rw [arrV_read _ _ hlt, hv1]) rfl rfl hd (k H locs ls hP hD hS hv)
theorem Z.alen (hX : Zf p m c cc nL s args own D tys A) (q0 t0 : Nat) {a : Nat} {cA : ClassId} {x : vp_A} {ty : FieldType} (hd : decode cc pc = .ok (.arraylength, 1)) (ha : w[q0]? = some (a, .inl (cA, x))) (ht : tys[t0]? = some (cA, ty)) (k : Z p l e R s m args below meth c D A nL cells slots Q (pc + 1) lv (.int (zI (x.1 : Int)) :: st) w) : Z p l e R s m args below meth c D A nL cells slots Q pc lv (.ref a :: st) w := fun H locs ls hP hD hS hv => va_alen hX.1 hX.2.1 hX.2.2.2.2.2.1 hP q0 t0 ha ht (v := zI (x.1 : Int)) rfl hd (k H locs ls hP hD hS hv)
theorem Z.callSNi (hX : Zf p m c cc nL s args own D tys A) {y : MethodName} {bytes : ByteArray} {maxL index : Nat} {ret : Option FieldType} {rm : Room} {As rest : List Value} {post : Int32 → va_W → Prop} {host : String} (hM : Ct l y bytes maxL ret rm 0 0 D tys As [] (QI D tys post)) (hcode : Cond.code y bytes maxL ret ∈ lw_g) (hlk : (own, index, y, host) ∈ nst) (hst : Cond.static y ∈ lw_g) (hini : Cond.initialized y.cls ∈ lw_g) (hdd : y.cls ≠ "java/lang/invoke/MethodHandle" ∧ y.cls ≠ "java/lang/invoke/VarHandle" ∧ (parseMethodDescriptor y.desc).map (fun d => d.parameters.length) = some As.length) (hR : rm.frames + 1 ≤ R.frames ∧ 8 + (maxL + 11) + rm.locals ≤ R.locals) (hcs : rm.cells = 0 ∧ rm.slots = 0) (hroom : cells ≤ R.cells ∧ slots ≤ R.slots) (hstk : st = As.reverse ++ rest) (hcat : (rest.map fun v => v.category).sum ≤ 8) (hd : decode cc pc = .ok (.invokestatic index, 3)) (k : ∀ (r : Int32) (w1 : va_W), post r w1 → w1 = [] ∧ Z p l e R s m args below meth c D A nL cells slots Q (pc + 3) lv (.int r :: rest) w) : Z p l e R s m args below meth c D A nL cells slots Q pc lv st w := by
  intro H locs ls hP hD hS hv
  obtain ⟨hx, hb, hml, hown, hts, hK, hA, hN⟩ := id hX
  have hPc : va_P D vwCl [] H := fun k q h => by simp at h
  have hDc : va_D A [] := ⟨fun i j p q h => by simp at h, fun k q h => by simp at h⟩
  have hFc : ∀ q, va_A [] H.size q → A q := fun q h => by
    rcases h with ⟨k, e, h⟩ | h
    · simp at h
    · exact hA q (Nat.le_trans hS.1 h)
  have hCB : va_CN R s args own index y host bytes maxL ret (.code y bytes maxL ret :: lw_g) rm 0 0 As.length := va_cnB As.length hts (z_goodC hcode) rfl hcs.1 hcs.2 (hN.1 _ hlk) (hts _ hini) hdd hR
  refine va_calli (va_runSN (As := As) (rest := rest) ⟨hx, hb, hml, hown, hts⟩ (hM H.size) ⟨hCB, hts _ hst, trivial⟩ ⟨fun a U g mk q => by obtain ⟨q0, q1, qP, qK, qD, qN⟩ := q; exact ⟨q0, q1, qP, va_K.moved (u := U) (U := U.calling g mk a) (Vm.Alike.refl U.vm) qK, qD, NW.same qN rfl⟩, fun U hU hW => ⟨rfl, by rw [hU], by rw [hU]; exact hPc, va_K.moved hW.alike hK, hDc.weaken (fun _ _ _ _ => trivial), hN.warm hW⟩⟩ rfl rfl hv.1 hstk (lv_room hcat) hd hroom) hS (fun q _ h => hFc q h) hFc (fun r u t H1 locs1 ht hvm hw hB hz1 hk1 hS1 => ?_)
  obtain ⟨h1, h2⟩ := k r u hw
  refine h2 H1 locs1 ls (hP.kept fun k q hq => hk1 q.1 (hP k q hq).lt ?_) hD hS1 hv
  rintro (⟨k, e, h⟩ | h)
  · simp at h
  · have := (hP _ q hq).lt
    omega
theorem Z.callSNl (hX : Zf p m c cc nL s args own D tys A) {y : MethodName} {bytes : ByteArray} {maxL index : Nat} {ret : Option FieldType} {rm : Room} {As rest : List Value} {post : Int64 → va_W → Prop} {host : String} (hM : Ct l y bytes maxL ret rm 0 0 D tys As [] (QL D tys post)) (hcode : Cond.code y bytes maxL ret ∈ lw_g) (hlk : (own, index, y, host) ∈ nst) (hst : Cond.static y ∈ lw_g) (hini : Cond.initialized y.cls ∈ lw_g) (hdd : y.cls ≠ "java/lang/invoke/MethodHandle" ∧ y.cls ≠ "java/lang/invoke/VarHandle" ∧ (parseMethodDescriptor y.desc).map (fun d => d.parameters.length) = some As.length) (hR : rm.frames + 1 ≤ R.frames ∧ 8 + (maxL + 11) + rm.locals ≤ R.locals) (hcs : rm.cells = 0 ∧ rm.slots = 0) (hroom : cells ≤ R.cells ∧ slots ≤ R.slots) (hstk : st = As.reverse ++ rest) (hcat : (rest.map fun v => v.category).sum ≤ 8) (hd : decode cc pc = .ok (.invokestatic index, 3)) (k : ∀ (r : Int64) (w1 : va_W), post r w1 → w1 = [] ∧ Z p l e R s m args below meth c D A nL cells slots Q (pc + 3) lv (.long r :: rest) w) : Z p l e R s m args below meth c D A nL cells slots Q pc lv st w := by
  intro H locs ls hP hD hS hv
  obtain ⟨hx, hb, hml, hown, hts, hK, hA, hN⟩ := id hX
  have hPc : va_P D vwCl [] H := fun k q h => by simp at h
  have hDc : va_D A [] := ⟨fun i j p q h => by simp at h, fun k q h => by simp at h⟩
  have hFc : ∀ q, va_A [] H.size q → A q := fun q h => by
    rcases h with ⟨k, e, h⟩ | h
    · simp at h
    · exact hA q (Nat.le_trans hS.1 h)
  have hCB : va_CN R s args own index y host bytes maxL ret (.code y bytes maxL ret :: lw_g) rm 0 0 As.length := va_cnB As.length hts (z_goodC hcode) rfl hcs.1 hcs.2 (hN.1 _ hlk) (hts _ hini) hdd hR
  refine va_calll (va_runSN (As := As) (rest := rest) ⟨hx, hb, hml, hown, hts⟩ (hM H.size) ⟨hCB, hts _ hst, trivial⟩ ⟨fun a U g mk q => by obtain ⟨q0, q1, qP, qK, qD, qN⟩ := q; exact ⟨q0, q1, qP, va_K.moved (u := U) (U := U.calling g mk a) (Vm.Alike.refl U.vm) qK, qD, NW.same qN rfl⟩, fun U hU hW => ⟨rfl, by rw [hU], by rw [hU]; exact hPc, va_K.moved hW.alike hK, hDc.weaken (fun _ _ _ _ => trivial), hN.warm hW⟩⟩ rfl rfl hv.1 hstk (lv_room hcat) hd hroom) hS (fun q _ h => hFc q h) hFc (fun r u t H1 locs1 ht hvm hw hB hz1 hk1 hS1 => ?_)
  obtain ⟨h1, h2⟩ := k r u hw
  refine h2 H1 locs1 ls (hP.kept fun k q hq => hk1 q.1 (hP k q hq).lt ?_) hD hS1 hv
  rintro (⟨k, e, h⟩ | h)
  · simp at h
  · have := (hP _ q hq).lt
    omega
end ZR6
