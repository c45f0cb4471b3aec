theorem outer_eq (cA : ClassId) (h0 : Nat) : Jvm.Free.Multi.outerC cA 3 h0 3 = arrV cA 3 (fun j => va_rf (some (h0 + 1 + j))) := by
  obtain ⟨o1, o2, o3⟩ := Jvm.Free.Multi.outerC_facts cA 3 h0 3
  have hs : (Jvm.Free.Multi.outerC cA 3 h0 3).slots = (arrV cA 3 (fun j => va_rf (some (h0 + 1 + j)))).slots := by
    apply Array.ext_getElem?
    intro j
    by_cases hj : j < 3
    · rw [Jvm.Free.Multi.outerC_slot cA 3 h0 3 j hj, arrV_read _ _ hj, if_pos hj]
      rfl
    · rw [Array.getElem?_eq_none (by omega), Array.getElem?_eq_none (by rw [arrV_size]; omega)]
  have h1 : ∀ x y : Cell, x.cls = y.cls → x.vm = y.vm → x.slots = y.slots → x.monitor = y.monitor → x.hash = y.hash → x = y := by
    intro x y h1 h2 h3 h4 h5
    cases x
    cases y
    simp only at h1 h2 h3 h4 h5
    subst h1; subst h2; subst h3; subst h4; subst h5
    rfl
  exact h1 _ _ o1 o2 hs rfl rfl
section ZR7
variable {p : Program} {l : Launch} {e : Env} {R : Room} {s : State} {m : MethodId} {args : Array Value} {below : List Frame} {meth : Method} {c : Code} {D : va_G} {A : Nat → Prop} {nL cells slots : Nat} {Q : State → Prop}
variable {cc : ByteArray} {own : String} {tys : List (ClassId × FieldType)} {pc : Nat} {lv : List (Nat × Value)} {st : List Value} {w : va_W}
theorem Z.mna (hX : Zf p m c cc nL s args own D tys A) (t0 t1 : Nat) {cA cJ : ClassId} {index : Nat} (hd : decode cc pc = .ok (.multianewarray index 2, 4)) (ht0 : tys[t0]? = some (cA, .array .long)) (ht1 : tys[t1]? = some (cJ, .long)) (hcl : Cond.classLink own index "[[J" ∈ lw_g) (har : Cond.arrayClass .long ∈ lw_g) (hcells : cells + 4 ≤ R.cells) (hslots : slots + 18 ≤ R.slots) (k : ∀ q : Nat, Z p l e R s m args below meth c D A nL (cells + 4) (slots + 18) Q (pc + 4) lv (.ref q :: st) (w ++ [(q, .inl (cA, 3, .inr (.inr (.inr (.inr (fun i => some (q + 1 + i))))))), (q + 1, .inl (cJ, 5, .inr (.inl (fun _ => 0)))), (q + 2, .inl (cJ, 5, .inr (.inl (fun _ => 0)))), (q + 3, .inl (cJ, 5, .inr (.inl (fun _ => 0))))])) : Z p l e R s m args below meth c D A nL cells slots Q pc lv (.int (zI 5) :: .int (zI 3) :: st) w := by
  intro H locs ls hP hD hS hv T hT X
  obtain ⟨hx, hb, hml, hown, hts, hK, hA, hN⟩ := id hX
  have e3 : (zI 3).toNatClampNeg = 3 := by decide +kernel
  have e5 : (zI 5).toNatClampNeg = 5 := by decide +kernel
  have es : ("[" ++ (FieldType.array .long).toString) = "[[J" := by decide +kernel
  obtain ⟨vm₁, cA', comp, hW, hfA, hfC, hO, hI, X1, step⟩ := X.multianewarray2F (own := own) (index := index) (ty := .long) (n := zI 3) (k := zI 5) (rest := st) (g := F0 m pc ls (.int (zI 5) :: .int (zI 3) :: st)) hx hown (by rw [es]; exact hts _ hcl) hN.2.2 (hts _ har) rfl (by rw [hb]; exact hd) rfl (by decide +kernel) (by decide +kernel) (by rw [e3]; decide) (by rw [e5]; decide) (by rw [e5]; decide) rfl rfl (by rw [e3]; omega) (by rw [e3, e5]; omega)
  have hA1 : cA' = cA := Option.some.inj (hfA.symm.trans (hK.2 t0 _ ht0).2)
  have hC1 : comp = cJ := Option.some.inj (hfC.symm.trans (hK.2 t1 _ ht1).2)
  subst hA1
  subst hC1
  rw [e3, e5] at X1 step
  have f1 := (Jvm.Free.Multi.fill_facts (T.setVm vm₁) cA' comp 3 5 (defaultValue .long) 3).1
  have f2 := (Jvm.Free.Multi.fill_facts (T.setVm vm₁) cA' comp 3 5 (defaultValue .long) 3).2.1
  have fo := fun (a : Addr) (ha : a < T.heap.size) => Jvm.Free.Multi.fill_old (T.setVm vm₁) cA' comp 3 5 (defaultValue .long) (a := a) ha 3
  have fi := fun (j : Nat) (hj : j < 3) => Jvm.Free.Multi.fill_inner (T.setVm vm₁) cA' comp 3 5 (defaultValue .long) 3 j hj
  generalize Jvm.Free.Multi.fill (T.setVm vm₁) cA' comp 3 5 (defaultValue .long) 3 = T1 at *
  have hh : (T.setVm vm₁).heap = H := hT
  have hin : ∀ j, j < 3 → T1.heap[H.size + 1 + j]? = some (vp_cell comp (5, .inr (.inl (fun _ => 0)))) := fun j hj => by
    have := fi j hj
    rw [hh] at this
    rw [this, vp_cell_l, ← arrV_new]
    rfl
  rw [hh] at f1 f2
  rw [hT] at fo step
  have hlt : ∀ (k : Nat) (q : Nat × va_E), w[k]? = some q → q.1 < H.size := fun k q h => (hP k q h).lt
  have old : ∀ a : Nat, a < H.size → T1.heap[a]? = H[a]? := fun a ha => (fo a ha).trans (by rw [hh])
  obtain ⟨t, a1, b1⟩ := k H.size T1.heap locs ls ((hP.kept (fun k q h => old _ (hlt k q h))).app (fun k q h => by
      match k, h with
      | 0, h => cases h; show T1.heap[H.size]? = some (vp_cell _ _); rw [f2, outer_eq, vp_cell_q]
      | 1, h => cases h; exact hin 0 (by decide)
      | 2, h => cases h; exact hin 1 (by decide)
      | 3, h => cases h; exact hin 2 (by decide)
      | k + 4, h => simp at h))
    (z_dApp hD hlt (fun k q h => by
      match k, h with
      | 0, h => cases h; rfl
      | 1, h => cases h; rfl
      | 2, h => cases h; rfl
      | 3, h => cases h; rfl
      | k + 4, h => simp at h) (fun q h => hA q (Nat.le_trans hS.1 h)))
    ⟨Nat.le_trans hS.1 (by omega), fun x h1 h2 => (old x (Nat.lt_of_lt_of_le h1 hS.1)).trans (hS.2.1 x h1 h2), hS.2.2⟩ hv T1 rfl X1
  exact ⟨t, step t a1, b1⟩
end ZR7
