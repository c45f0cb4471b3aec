/-! the two curves of the reference -/
theorem lfi_h6 {g : Nat → Int} (h : SUi g 6) (t : Int) : evl (lfi g 49) t = hom6 (fun a b => g (7 * a + b)) (t7 t) t 1 := by
  rw [← evl_l6]
  exact evl_gd (fun i => by
    rw [gd_lfi]
    by_cases hi : i < 49
    · rw [if_pos hi]
      by_cases h6 : i / 7 + i % 7 ≤ 6
      · have := gd_l6 (fun a b => g (7 * a + b)) (i / 7) (i % 7) h6
        rw [show 7 * (i / 7) + i % 7 = i by omega] at this
        exact this.symm
      · rw [gd_l6z _ i (by omega)]
        exact SUi_at h hi (by omega)
    · rw [if_neg hi]
      exact (gd_fin _ _ (by show 43 ≤ i; omega)).symm) t
theorem tru_kr {k D : Nat} {f E : Nat → Int} (hk : 2 ≤ k) (hD : k * D ≤ 6) (su : SUi E D) (sf : SUi f 6) (h : ∀ t, evl (lfi E 49) t ^ k = evl (lfi f 49) t) : tru k f E := by
  have d6 : D ≤ 6 := by
    have := Nat.mul_le_mul (show 1 ≤ k by omega) (Nat.le_refl D)
    omega
  obtain ⟨T, hT⟩ := hom_pow hk hD su
  have u := evl_uq (l := l6 (fun a b => T (7 * a + b))) (m := l6 (fun a b => f (7 * a + b))) (fun t => by rw [evl_l6, evl_l6, ← hT, ← lfi_h6 (SUi_le d6 su), h t, lfi_h6 sf])
  intro x y
  rw [hT x y]
  exact hom6_eq (fun a b hab => by
    have := u (7 * a + b)
    rw [gd_l6 _ a b hab, gd_l6 _ a b hab] at this
    exact this) x y 1
theorem TW_TZ {w tr : Nat → Int64} {dg pw_ : Int32} (h : TW w tr dg pw_) : TZ w tr dg := by
  obtain ⟨f, c, d, k, fi, c0, hw, hp, hd1, hsu, ⟨f1, f2, f3, f4, f5⟩, ⟨hk1, hk2⟩, hdg, hpw, hkk, hno⟩ := h
  exact ⟨f, c, d, k, fi, c0, hw, hp, hd1, hsu, ⟨f1, f2, f3, fun z => by rw [z] at f4; exact absurd f4 (by decide), f5⟩, hk1, hdg, hkk⟩
theorem PWz_PWy {r f : Nat → Int64} {k fi d : Int} (hk : 2 ≤ k ∧ k ≤ 12) (hfi : 0 ≤ fi ∧ fi < 49) (hd : fi / 7 + fi % 7 = d) (h : PWz r f k fi) : PWy r f k d := by
  obtain ⟨ri, rj, L, a1, a2, a3, a4, su, ⟨b1, b2, b3⟩, l1, l2, hc⟩ := h
  have hp : 1 ≤ L.toInt ^ (k - 1).toNat := Int.pow_pos (by omega)
  have hkp : k * 1 ≤ k * L.toInt ^ (k - 1).toNat := Int.mul_le_mul_of_nonneg_left hp (by omega)
  refine ⟨ri + rj, by omega, by rw [Int.mul_add]; omega, su, fun q a b => ?_, hc⟩
  by_cases e : q = 7 * ri + rj
  · rw [e, b1]
    have hv := Int64.toInt_lt (f fi.toNat)
    rcases Nat.lt_or_ge L.toInt.natAbs 10 with q1 | q1
    · have := Nat.mul_le_mul (Nat.le_of_lt q1) (show k.toNat ≤ 12 by omega)
      omega
    · have h2 : L.toInt ^ 2 ≤ L.toInt ^ k.toNat := ipow_le l1 (by omega)
      have e2 : L.toInt ^ 2 = L.toInt * L.toInt := by rw [Int.pow_succ, Int.pow_succ, Int.pow_zero, Int.one_mul]
      have l4 : L.toInt < 4000000000 := by
        apply Classical.byContradiction
        intro z
        have := Int.mul_le_mul (show 4000000000 ≤ L.toInt by omega) (show 4000000000 ≤ L.toInt by omega) (by decide) (by omega)
        omega
      have := Nat.mul_le_mul (show L.toInt.natAbs ≤ 4000000000 by omega) (show k.toNat ≤ 12 by omega)
      omega
  · have := b2 q a b e
    have h3 : (r q.toNat).toInt.natAbs * k.toNat ≤ (r q.toNat).toInt.natAbs * (k * L.toInt ^ (k - 1).toNat).toNat := Nat.mul_le_mul (Nat.le_refl _) (by omega)
    omega
theorem TW_TE {w tr : Nat → Int64} {dg pw_ : Int32} (h6 : SU w 6) (h : TW w tr dg pw_) : TE w tr dg := by
  obtain ⟨f, c, d, k, fi, c0, hw, hp, hd1, hsu, ⟨f1, f2, f3, f4, f5⟩, ⟨hk1, hk2⟩, hdg, hpw, hkk, hno⟩ := h
  have fne : f fi.toNat ≠ 0 := fun z => by
    rw [z] at f4
    exact absurd f4 (by decide)
  have wne : w fi.toNat ≠ 0 := fun z => by
    have e := hw fi.toNat (by omega)
    rw [z, show (0 : Int64).toInt = 0 from rfl] at e
    rcases Int.mul_eq_zero.mp e.symm with y | y
    · exact c0 y
    · exact fne (i64_z y)
  have hd6 : d ≤ 6 := by
    have := SU_le h6 (q := fi) f1 f2 wne
    omega
  refine ⟨f, c, d, k, c0, hw, hp, hd1, hsu, ⟨fi, f1, f2, f3, fne⟩, hk1, hdg, ?_⟩
  rcases hkk with q | ⟨e, p⟩
  · exact Or.inl q
  · exact Or.inr ⟨e, PWz_PWy ⟨e, by omega⟩ ⟨f1, f2⟩ f3 p⟩
theorem tw_env {N : Nat} {X Y W : Nat → Int} {T : Nat → Nat → Int} (hT : TN N X Y W T) {w tr : Nat → Int64} {dg pw_ : Int32} {s : Int} (hs : s = 1 ∨ s = -1) (h : CG (pw id w 49) (fun t => s * Fe N X Y W (t7 t) t 1)) (ht : TW w tr dg pw_) : RESm (fun x y => Fe N X Y W x y 1) tr dg pw_ := by
  obtain ⟨ex, sz, su⟩ := sl_ez hT hs h
  have hsq : s * s = 1 := by rcases hs with e | e <;> rw [e] <;> rfl
  have sc0 : ∀ c : Int, c ≠ 0 → s * c ≠ 0 := fun c c0 z => by
    rcases Int.mul_eq_zero.mp z with y | y
    · rcases hs with e | e <;> omega
    · exact c0 y
  have hT' : ∀ (f : Nat → Int64) (c : Int), (∀ i, i < 49 → (w i).toInt = c * (f i).toInt) → ∀ a b, a + b ≤ 6 → T a b = s * c * ci f (7 * a + b) := fun f c hw a b hab => by
    have e := ex (7 * a + b) (by omega)
    rw [hw _ (by omega), gd_l6 T a b hab] at e
    show T a b = s * c * (f (7 * a + b)).toInt
    rw [Int.mul_assoc, e, ← Int.mul_assoc, hsq, Int.one_mul]
  refine TW_res su ht (fun f c c0 hw hp sui => ⟨s * c, sc0 c c0, fun x y => ?_⟩) (fun f c d k fi c0 hw hp hsu hd1 hd6 hfi hk p => ?_)
  · rw [hT.2.1 x y]
    exact hom6_mul (hT' f c hw) x y 1
  · have sui : SUi (ci f) 6 := SUi_le (by omega) (SU_ci (by omega) hsu)
    obtain ⟨⟨m1, m2⟩, z⟩ := PW_zr hk ⟨hfi.1, hfi.2.1⟩ hfi.2.2.1 hsu hfi.2.2.2.2 p
    exact (hT.2.2.2 (s * c) (ci f) (sc0 c c0) hp sui (hT' f c hw) (ci tr) k.toNat (fi / 7).toNat (fi % 7).toNat (by omega) m1 m2 (by omega) (by omega) z).2
theorem qg_h6 {f : Nat → Int} (h : SUi f 4) (x y : Int) : qg (c15 f) x y 1 = hom6 (fun a b => f (7 * a + b)) x y 1 := by
  have z : ∀ a b, a < 7 → b < 7 → 4 < a + b → f (7 * a + b) = 0 := h
  unfold hom6 qg c15
  simp only [ix15, Nat.reduceMul, Nat.reduceAdd]
  rw [show f 42 = 0 from z 6 0 (by decide) (by decide) (by decide), show f 36 = 0 from z 5 1 (by decide) (by decide) (by decide), show f 35 = 0 from z 5 0 (by decide) (by decide) (by decide), show f 30 = 0 from z 4 2 (by decide) (by decide) (by decide), show f 29 = 0 from z 4 1 (by decide) (by decide) (by decide), show f 24 = 0 from z 3 3 (by decide) (by decide) (by decide), show f 23 = 0 from z 3 2 (by decide) (by decide) (by decide), show f 18 = 0 from z 2 4 (by decide) (by decide) (by decide), show f 17 = 0 from z 2 3 (by decide) (by decide) (by decide), show f 12 = 0 from z 1 5 (by decide) (by decide) (by decide), show f 11 = 0 from z 1 4 (by decide) (by decide) (by decide), show f 6 = 0 from z 0 6 (by decide) (by decide) (by decide), show f 5 = 0 from z 0 5 (by decide) (by decide) (by decide)]
  clear z h
  generalize f 0 = f0
  generalize f 1 = f1
  generalize f 2 = f2
  generalize f 3 = f3
  generalize f 4 = f4
  generalize f 7 = f7
  generalize f 8 = f8
  generalize f 9 = f9
  generalize f 10 = f10
  generalize f 14 = f14
  generalize f 15 = f15
  generalize f 16 = f16
  generalize f 21 = f21
  generalize f 22 = f22
  generalize f 28 = f28
  grind
theorem tw_loc {X Y W : Nat → Int} {n : Nat} {w tr : Nat → Int64} {dg pw_ : Int32} {s : Int} (h1 : 1 ≤ n) (hn : n ≤ 4) (hr : RowOK X Y W n) (hW : ∃ i, i < 5 ∧ W i ≠ 0) (hs : s = 1 ∨ s = -1) (h : CG (pw id w 49) (fun t => s * Fz n X Y W (t7 t) t 1)) (ht : TW w tr dg pw_) : RESm (fun x y => Fz n X Y W x y 1) tr dg pw_ := by
  obtain ⟨ev, sz, su⟩ := sl_ex h1 hn hr hs h
  have hsq : s * s = 1 := by rcases hs with e | e <;> rw [e] <;> rfl
  have sc0 : ∀ c : Int, c ≠ 0 → s * c ≠ 0 := fun c c0 z => by
    rcases Int.mul_eq_zero.mp z with y | y
    · rcases hs with e | e <;> omega
    · exact c0 y
  have hf : ∀ (f : Nat → Int64) (c : Int), (∀ i, i < 49 → (w i).toInt = c * (f i).toInt) → ∀ t, s * c * evl (lfi (ci f) 49) t = Fz n X Y W (t7 t) t 1 := fun f c hw t => by
    have e1 : evl (lsf w 49) t = c * evl (lfi (ci f) 49) t := by
      rw [← evl_map]
      exact evl_gd (fun i => by
        rw [gd_map, gd_lsf, gd_lfi]
        by_cases hi : i < 49
        · rw [if_pos hi, if_pos hi]
          exact hw i hi
        · rw [if_neg hi, if_neg hi, Int.mul_zero]) t
    rw [Int.mul_assoc, ← e1, ev t, ← Int.mul_assoc, hsq, Int.one_mul]
  have sun : ∀ (f : Nat → Int64) (c : Int), c ≠ 0 → (∀ i, i < 49 → (w i).toInt = c * (f i).toInt) → SU f n := fun f c c0 hw q a b d => by
    have e := hw q.toNat (by omega)
    rw [su q a b d, show (0 : Int64).toInt = 0 from rfl] at e
    exact i64_z ((Int.mul_eq_zero.mp e.symm).resolve_left c0)
  have su6 : SU w 6 := fun q a b d => su q a b (by omega)
  refine TW_res su6 ht (fun f c c0 hw hp sui => ⟨s * c, sc0 c c0, fun x y => ?_⟩) (fun f c d k fi c0 hw hp hsu hd1 hd6 hfi hk p => ?_)
  · have s4 : SUi (ci f) 4 := SUi_le (by omega) (SU_ci (by omega) (sun f c c0 hw))
    rw [← qg_h6 s4]
    exact Fz_f (hf f c hw) x y 1
  · have fne : f fi.toNat ≠ 0 := fun z => by
      have := hfi.2.2.2.1
      rw [z] at this
      exact absurd this (by decide)
    have hdn : d ≤ n := by
      have := SU_le (sun f c c0 hw) (q := fi) hfi.1 hfi.2.1 fne
      omega
    have bf : ∀ i, (gd (lfi (ci f) 49) i).natAbs < 2 ^ 60 := fun i => by
      rw [gd_lfi]
      by_cases hi : i < 49
      · rw [if_pos hi]
        have e := hw i hi
        have b := sz (i : Int) (by omega) (by omega)
        rw [Int.toNat_natCast, e, Int.natAbs_mul] at b
        have := Nat.mul_le_mul (show 1 ≤ c.natAbs by omega) (Nat.le_refl (f i).toInt.natAbs)
        show (f i).toInt.natAbs < _
        omega
      · rw [if_neg hi]
        decide
    have sui : SUi (ci f) d.toNat := SU_ci (by omega) hsu
    obtain ⟨Dg, p1, p2, p3, p4, H, pH, hH⟩ := PWz_PWy (d := d) ⟨hk, by
      obtain ⟨ri, rj, L, a1, a2, a3, a4, _⟩ := p
      rcases Int.lt_or_le 12 k with q | q
      · exfalso
        have r1 : ri + rj = 0 ∨ 1 ≤ ri + rj := by omega
        rcases r1 with r | r
        · have : k * (ri + rj) = d := by rw [Int.mul_add]; omega
          rw [r, Int.mul_zero] at this
          omega
        · have : k * 1 ≤ k * (ri + rj) := Int.mul_le_mul_of_nonneg_left r (by omega)
          rw [Int.mul_add] at this
          omega
      · exact q⟩ ⟨hfi.1, hfi.2.1⟩ hfi.2.2.1 p
    have ed : d.toNat = k.toNat * Dg.toNat := by
      have : ((k.toNat * Dg.toNat : Nat) : Int) = d := by rw [Int.natCast_mul, Int.toNat_of_nonneg (by omega), Int.toNat_of_nonneg p1, p2]
      omega
    have edk : d.toNat / k.toNat = Dg.toNat := by
      rw [ed]
      exact Nat.mul_div_cancel_left _ (by omega)
    have kr : kroot k.toNat d.toNat (ci f) (ci tr) := Or.inr ⟨by omega, ⟨Dg.toNat, ed⟩, by rw [edk]; exact SU_ci p1 p3, fun i hi => by
      have := p4 (i : Int) (by omega) (by omega)
      rw [Int.toNat_natCast] at this
      exact this, fun t => H t, pH, fun t => by
      have e1 : evl (lfi (ci tr) 49) t = pw id tr 49 t := (pw_evl tr 49 t).symm
      have e2 : evl (lfi (ci f) 49) t = pw id f 49 t := (pw_evl f 49 t).symm
      rw [e1, e2]
      exact hH t⟩
    have tt := trace_true h1 hn (fun i a _ => hr.1 i a) (pv_ne hW) (sc0 c c0) (hf f c hw) hp bf (show 1 ≤ d.toNat by omega) (show d.toNat ≤ n by omega) sui ⟨fi.toNat, by omega, by omega, fun z => fne (i64_z z)⟩ (fun e i _ => hr.2.2.1 e i) hr.2.2.2 kr (by omega)
    exact tru_kr (by omega) (by rw [← ed]; omega) (SU_ci p1 p3) (SUi_le (by omega) sui) tt
/-- sizes -/
theorem ns_b {B : Nat} : ∀ l : List Int, (∀ i, (gd l i).natAbs ≤ B) → ns (pr0 l) ≤ l.length * B
  | [], _ => Nat.zero_le _
  | a :: l, h => by
    have h0 : a.natAbs ≤ B := h 0
    have ih := ns_b l (fun i => h (i + 1))
    show (a.natAbs + (0 : Int).natAbs) + ns (pr0 l) ≤ (l.length + 1) * B
    rw [Nat.succ_mul]
    have : (0 : Int).natAbs = 0 := rfl
    omega
theorem gd_mem : ∀ (l : List Int) (B : Nat), (∀ x, x ∈ l → x.natAbs ≤ B) → ∀ i, (gd l i).natAbs ≤ B
  | [], B, _, i => Nat.zero_le _
  | a :: l, B, h, 0 => h a (List.mem_cons_self ..)
  | a :: l, B, h, i + 1 => gd_mem l B (fun x hx => h x (List.mem_cons_of_mem _ hx)) i
theorem sS_b {T : Nat → Nat → Int} {B : Nat} (h : ∀ a b, (T a b).natAbs ≤ B) : sS T ≤ 28 * B := by
  have k : ∀ l : List Int, (∀ x, x ∈ l → ∃ a b, x = T a b) → ns (pr0 l) ≤ l.length * B := fun l hl => ns_b l (gd_mem l B (fun x hx => by
    obtain ⟨a, b, e⟩ := hl x hx
    rw [e]
    exact h a b))
  have mk : ∀ (n a : Nat), ∀ x, x ∈ (List.range n).map (T a) → ∃ a b, x = T a b := fun n a x hx => by
    obtain ⟨b, _, e⟩ := List.mem_map.mp hx
    exact ⟨a, b, e.symm⟩
  have k0 := k _ (mk 7 0)
  have k1 := k _ (mk 6 1)
  have k2 := k _ (mk 5 2)
  have k3 := k _ (mk 4 3)
  have k4 := k _ (mk 3 4)
  have k5 := k _ (mk 2 5)
  have k6 := k _ (mk 1 6)
  rw [List.length_map, List.length_range] at k0 k1 k2 k3 k4 k5 k6
  have e : sS T = ns (pr0 ((List.range 7).map (T 0))) + (ns (pr0 ((List.range 6).map (T 1))) + (ns (pr0 ((List.range 5).map (T 2))) + (ns (pr0 ((List.range 4).map (T 3))) + (ns (pr0 ((List.range 3).map (T 4))) + (ns (pr0 ((List.range 2).map (T 5))) + (ns (pr0 ((List.range 1).map (T 6))) + 0)))))) := rfl
  rw [e]
  omega
theorem sS_env {N : Nat} {X Y W : Nat → Int} {T : Nat → Nat → Int} (hT : TN N X Y W T) {w : Nat → Int64} {s : Int} (hs : s = 1 ∨ s = -1) (h : CG (pw id w 49) (fun t => s * Fe N X Y W (t7 t) t 1)) : sS (fun a b => ci w (7 * a + b)) ≤ 1152921504606846976 := by
  obtain ⟨ex, _, _⟩ := sl_ez hT hs h
  refine Nat.le_trans (sS_mono (t := T) (fun a b hab => ?_)) (Nat.le_trans (sS_b hT.2.2.1) (by decide))
  show (w (7 * a + b)).toInt.natAbs ≤ _
  rw [ex _ (by omega), gd_l6 T a b hab]
  rcases hs with e | e <;> rw [e] <;> omega
theorem l1_0 : ∀ l : List Int, (∀ i, gd l i = 0) → l1 l = 0
  | [], _ => rfl
  | a :: l, h => by
    have h0 : a = 0 := h 0
    have := l1_0 l (fun i => h (i + 1))
    show a.natAbs + l1 l = 0
    rw [h0, this]
    rfl
theorem l1_gd : ∀ l m : List Int, (∀ i, gd l i = gd m i) → l1 l = l1 m
  | [], m, h => (l1_0 m (fun i => (h i).symm)).symm
  | a :: l, [], h => l1_0 (a :: l) h
  | a :: l, b :: m, h => by
    have h0 : a = b := h 0
    have := l1_gd l m (fun i => h (i + 1))
    show a.natAbs + l1 l = b.natAbs + l1 m
    rw [h0, this]
theorem sS_l1 (T : Nat → Nat → Int) : sS T = l1 (l6 T) := by
  simp only [sS, pr0, List.map, ns, nr, l6, l1, Int.natAbs_zero]
  omega
theorem sS_loc {X Y W : Nat → Int} {n : Nat} {w : Nat → Int64} {s : Int} (h1 : 1 ≤ n) (hn : n ≤ 4) (hr : RowOK X Y W n) (hs : s = 1 ∨ s = -1) (h : CG (pw id w 49) (fun t => s * Fz n X Y W (t7 t) t 1)) : sS (fun a b => ci w (7 * a + b)) ≤ 1152921504606846976 := by
  obtain ⟨ev, sz, su⟩ := sl_ex h1 hn hr hs h
  obtain ⟨l, hl, bl_⟩ := Nb_Fz h1 hn hr.2.1 hr.2.2.1
  have s6 : SUi (ci w) 6 := SUi_le (by omega) (SU_ci (by omega) su)
  have e : ∀ i, gd (l6 (fun a b => ci w (7 * a + b))) i = gd (l.map (fun x => s * x)) i := evl_uq (fun t => by rw [evl_l6, ← lfi_h6 s6, evl_map, ← hl t]; exact ev t)
  rw [sS_l1, l1_gd _ _ e, l1_map]
  have : s.natAbs = 1 := by rcases hs with r | r <;> rw [r] <;> rfl
  rw [this]
  omega
/-- has, and the equation -/
theorem lo_finw {X Y W : Nat → Int} {n : Nat} {m tr : Nat → Int64} {dg pw_ : Int32} {fr s : Int} {P Q : Prop} (h1 : 1 ≤ n) (hn : n ≤ 4) (hr : RowOK X Y W n) (hW : ∃ i, i < 5 ∧ W i ≠ 0) (hs : s = 1 ∨ s = -1) (hf : 0 ≤ fr) (h : CG (pw id (fun i => m (fr.toNat + i)) 49) (fun t => s * Fz n X Y W (t7 t) t 1)) (h4 : (∀ q : Int, 1 ≤ q → q < 49 → m (fr + q).toNat = 0) → P) (h5 : (∃ q : Int, 1 ≤ q ∧ q < 49 ∧ m (fr + q).toNat ≠ 0) → Q ∧ TW (fun i => m (fr.toNat + i)) tr dg pw_) : (NC X Y W n → (Q ∧ TR X Y W n tr dg) ∧ RESm (fun x y => Fz n X Y W x y 1) tr dg pw_) ∧ (¬ NC X Y W n → P) := by
  obtain ⟨_, _, su⟩ := sl_ex h1 hn hr hs h
  have su6 : SU (fun i => m (fr.toNat + i)) 6 := fun q a b d => su q a b (by omega)
  obtain ⟨g1, g2⟩ := lo_fin h1 hn hr hW hs hf h h4 (fun q => ⟨(h5 q).1, TW_TE su6 (h5 q).2⟩)
  refine ⟨fun nc => ⟨g1 nc, ?_⟩, g2⟩
  have e : ∀ q : Int, 1 ≤ q → m (fr + q).toNat = (fun i => m (fr.toNat + i)) q.toNat := fun q hq => by
    show _ = m (fr.toNat + q.toNat)
    congr 1
    omega
  obtain ⟨q, q1, q2, q3⟩ := (nc_w hs h).mpr nc
  exact tw_loc h1 hn hr hW hs h (h5 ⟨q, q1, q2, by rw [e q q1]; exact q3⟩).2
theorem en_finw {N : Nat} {X Y W : Nat → Int} {T : Nat → Nat → Int} (hT : TN N X Y W T) {m tr : Nat → Int64} {dg pw_ : Int32} {fr s : Int} {P Q : Prop} (hs : s = 1 ∨ s = -1) (hf : 0 ≤ fr) (h : CG (pw id (fun i => m (fr.toNat + i)) 49) (fun t => s * Fe N X Y W (t7 t) t 1)) (h4 : (∀ q : Int, 1 ≤ q → q < 49 → m (fr + q).toNat = 0) → P) (h5 : (∃ q : Int, 1 ≤ q ∧ q < 49 ∧ m (fr + q).toNat ≠ 0) → Q ∧ TW (fun i => m (fr.toNat + i)) tr dg pw_) : (NCe N X Y W → (Q ∧ TRz N X Y W tr dg) ∧ RESm (fun x y => Fe N X Y W x y 1) tr dg pw_) ∧ (¬ NCe N X Y W → P) := by
  obtain ⟨g1, g2⟩ := en_fin hT hs hf h h4 (fun q => ⟨(h5 q).1, TW_TZ (h5 q).2⟩)
  refine ⟨fun nc => ⟨g1 nc, ?_⟩, g2⟩
  have e : ∀ q : Int, 1 ≤ q → m (fr + q).toNat = (fun i => m (fr.toNat + i)) q.toNat := fun q hq => by
    show _ = m (fr.toNat + q.toNat)
    congr 1
    omega
  obtain ⟨q, q1, q2, q3⟩ := (nc_g hs h).mpr nc
  exact tw_env hT hs h (h5 ⟨q, q1, q2, by rw [e q q1]; exact q3⟩).2
