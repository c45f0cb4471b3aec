/-! what the reference knows of both curves -/
theorem tof_0 (m : Nat → Int64) : tof m 0 = m := funext fun i => by
  show m (49 * 0 + i) = m i
  rw [show 49 * 0 + i = i by omega]
theorem SUi_c {E E' : Nat → Int} {D : Nat} (h : ∀ i, i < 49 → E' i = E i) (s : SUi E D) : SUi E' D := fun a b ha hb hab => by
  rw [h _ (by omega)]
  exact s a b ha hb hab
theorem ROT_c {k i0 j0 : Nat} {f E E' : Nat → Int} (h6 : i0 + j0 ≤ 6) (h : ∀ i, i < 49 → E' i = E i) (r : ROT k f i0 j0 E) : ROT k f i0 j0 E' := by
  obtain ⟨a1, a2, a3, a4, a5, a6⟩ := r
  have d1 := Nat.div_le_self i0 k
  have d2 := Nat.div_le_self j0 k
  refine ⟨a1, a2, SUi_c h a3, by rw [h _ (by omega)]; exact a4, fun a b hab hw => by rw [h _ (by omega)]; exact a5 a b hab hw, fun x y => ?_⟩
  rw [← a6 x y, hom6_eq (s := fun a b => E (7 * a + b)) (fun a b hab => h _ (by omega)) x y 1]
theorem RES_c {Φ : Int → Int → Int} {k D : Nat} {E E' : Nat → Int} (h : ∀ i, i < 49 → E' i = E i) (r : RES Φ k E D) : RES Φ k E' D := by
  obtain ⟨f, i0, j0, p, d1, kk, eD, hr, hn⟩ := r
  refine ⟨f, i0, j0, p, d1, kk, eD, ?_, hn⟩
  rcases hr with ⟨q, e⟩ | q
  · exact Or.inl ⟨q, fun i hi => by rw [h i hi]; exact e i hi⟩
  · exact Or.inr (ROT_c p.2.2.2.1 h q)
theorem RESm_c {Φ : Int → Int → Int} {tr tr' : Nat → Int64} {dg pw_ : Int32} (h : ∀ q : Int, 0 ≤ q → q < 49 → tr' q.toNat = tr q.toNat) (r : RESm Φ tr dg pw_) : RESm Φ tr' dg pw_ := by
  have e : ∀ i, i < 49 → ci tr' i = ci tr i := fun i hi => by
    have := h (i : Int) (by omega) (by omega)
    rw [Int.toNat_natCast] at this
    show (tr' i).toInt = (tr i).toInt
    rw [this]
  obtain ⟨k, D, a1, a2, a3, a4, a5, a6⟩ := r
  exact ⟨k, D, a1, a2, a3, a4, SUi_c e a5, RES_c e a6⟩
def HTw (F : Nat → Int) (I : Nat → Nat → Int32) (J : Nat → Nat → Int64) : Prop := (HS (fP (J 0)) (F 1) → RESm (fun x y => Fz (F 1).toNat (fI (J 0) 0) (fI (J 0) 1) (fI (J 0) 2) x y 1) (tof (J 1) 0) (I 2 0) (I 3 0)) ∧ (HE (I 0) → RESm (fun x y => Fe (moK (I 0) 5).toNat (ti (rP (I 0) 0)) (ti (rP (I 0) 1)) (ti (rP (I 0) 2)) x y 1) (tof (J 1) 1) (I 2 1) (I 3 1))
def TIw (F : Nat → Int) (I : Nat → Nat → Int32) (J : Nat → Nat → Int64) : Prop := F 2 = 1 → HTw F I J
theorem htw_y {F : Nat → Int} {I K : Nat → Nat → Int32} {J M : Nat → Nat → Int64} (h0 : J 0 = M 0) (h1 : ∀ q : Int, 0 ≤ q → q < 49 → J 1 q.toNat = M 1 q.toNat) (hi : I 1 0 = K 1 0 ∧ I 2 0 = K 2 0) (h3 : I 3 0 = K 3 0) (hI : I 0 = K 0) (hn : F 0 = moK (K 0) 5) (hl : HS (fP (M 0)) (F 1) → RESm (fun x y => Fz (F 1).toNat (fI (M 0) 0) (fI (M 0) 1) (fI (M 0) 2) x y 1) (tof (M 1) 0) (K 2 0) (K 3 0)) (he : NCe (F 0).toNat (ti (rP (K 0) 0)) (ti (rP (K 0) 1)) (ti (rP (K 0) 2)) → RESm (fun x y => Fe (F 0).toNat (ti (rP (K 0) 0)) (ti (rP (K 0) 1)) (ti (rP (K 0) 2)) x y 1) (tof (J 1) 1) (I 2 1) (I 3 1)) : HTw F I J := by
  unfold HTw
  rw [h0, hi.2, h3, hI]
  refine ⟨fun hs => RESm_c (fun q a b => ?_) (hl hs), fun hh => ?_⟩
  · rw [tof_0, tof_0]
    exact h1 q a b
  · rw [← hn]
    refine he ?_
    have := hh.2
    rw [← hn] at this
    exact this
/-- an answer told by a curve -/
def RSP (r : Nat → Int32) (F : Nat → Int) (J : Nat → Nat → Int64) (sort : Int) (A : Nat → (Nat → Int) → Nat → Prop) (N : Prop) : Prop := FQ r F (J 0) ∧ (sort = 0 → (HS (fP (J 0)) (F 1) → ∃ (k D : Nat) (E : Nat → Int), k ≤ 6 ∧ D ≤ 6 ∧ SUi E D ∧ RES (fun x y => Fz (F 1).toNat (fI (J 0) 0) (fI (J 0) 1) (fI (J 0) 2) x y 1) k E D ∧ A k E D) ∧ (¬ HS (fP (J 0)) (F 1) → N)) ∧ (sort = 1 → (HE r → ∃ (k D : Nat) (E : Nat → Int), k ≤ 6 ∧ D ≤ 6 ∧ SUi E D ∧ RES (fun x y => Fe (moK r 5).toNat (ti (rP r 0)) (ti (rP r 1)) (ti (rP r 2)) x y 1) k E D ∧ A k E D) ∧ (¬ HE r → N))
theorem rs_y {r : Nat → Int32} {F : Nat → Int} {I : Nat → Nat → Int32} {J : Nat → Nat → Int64} {sort z : Int} {A : Nat → (Nat → Int) → Nat → Prop} {N : Prop} (hs : sort = 0 ∨ sort = 1) (hI : I 0 = r) (hfq : FQ r F (J 0)) (hht : HT F I J) (hhe : HTe I J) (hhw : HTw F I J) (ez : I 1 sort.toNat = zI z) (b1 : -2147483648 ≤ z) (b2 : z < 2147483648) (hz : ¬ z = 0) (hA : ∀ k D : Nat, k ≤ 6 → D ≤ 6 → I 2 sort.toNat = zI D → I 3 sort.toNat = zI k → SUi (ci (tof (J 1) sort.toNat)) D → A k (ci (tof (J 1) sort.toNat)) D) : RSP r F J sort A N := by
  refine ⟨hfq, fun e => ?_, fun e => ?_⟩
  · subst e
    have hh := (fo_has hht ez b1 b2).2 hz
    refine ⟨fun hs => ?_, fun q => absurd hh q⟩
    obtain ⟨k, D, a1, a2, a3, a4, a5, a6⟩ := hhw.1 hs
    exact ⟨k, D, _, a1, a2, a5, a6, hA k D a1 a2 a3 a4 a5⟩
  · subst e
    have hh := (he_has hhe ez b1 b2).2 hz
    rw [hI] at hh
    refine ⟨fun hs => ?_, fun q => absurd hh q⟩
    obtain ⟨k, D, a1, a2, a3, a4, a5, a6⟩ := hhw.2 (by rw [hI]; exact hs)
    rw [hI] at a6
    exact ⟨k, D, _, a1, a2, a5, a6, hA k D a1 a2 a3 a4 a5⟩
theorem rs_n {r : Nat → Int32} {F : Nat → Int} {I : Nat → Nat → Int32} {J : Nat → Nat → Int64} {sort z : Int} {A : Nat → (Nat → Int) → Nat → Prop} {N : Prop} (hs : sort = 0 ∨ sort = 1) (hI : I 0 = r) (hfq : FQ r F (J 0)) (hht : HT F I J) (hhe : HTe I J) (ez : I 1 sort.toNat = zI z) (b1 : -2147483648 ≤ z) (b2 : z < 2147483648) (hz : z = 0) (hN : N) : RSP r F J sort A N := by
  refine ⟨hfq, fun e => ?_, fun e => ?_⟩
  · subst e
    exact ⟨fun hs => absurd hs ((fo_has hht ez b1 b2).1 hz), fun _ => hN⟩
  · subst e
    have hh := (he_has hhe ez b1 b2).1 hz
    rw [hI] at hh
    exact ⟨fun hs => absurd hs hh, fun _ => hN⟩
