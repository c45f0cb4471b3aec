/-! both tell the same of a curve -/
theorem he_iff {L : Nat → Nat → Int64} {r : Nat → Int32} (h : rel L r) : HEc L ↔ HE r := by
  obtain ⟨et, hp⟩ := he_rel h
  constructor
  · rintro ⟨k, a1, a2, a3⟩
    have ek := HP_uq a1 hp
    rw [ek] at a2 a3
    rw [et 0 (by decide), et 1 (by decide), et 2 (by decide)] at a3
    exact ⟨a2, a3⟩
  · rintro ⟨a2, a3⟩
    refine ⟨moK r 5, hp, a2, ?_⟩
    rw [et 0 (by decide), et 1 (by decide), et 2 (by decide)]
    exact a3
theorem rsp_rel {L L2 J : Nat → Nat → Int64} {r : Nat → Int32} {F : Nat → Int} {sort : Int} {A A' : Nat → (Nat → Int) → Nat → Prop} {N N' P : Prop} (h : rel L r) (hs : sort = 0 ∨ sort = 1) (hc : RSPc L L2 sort A' N') (hm : RSP r F J sort A N) (hA : ∀ (k D : Nat) (E E' : Nat → Int), (∀ i, i < 49 → E i = E' i) → A' k E D → A k E' D → P) (hN : N' → N → P) : P := by
  obtain ⟨hq, m0, m1⟩ := hm
  have fin : ∀ {Φ : Int → Int → Int}, (∃ (k D : Nat) (E : Nat → Int), k ≤ 6 ∧ D ≤ 6 ∧ SUi E D ∧ RES Φ k E D ∧ A' k E D) → (∃ (k D : Nat) (E : Nat → Int), k ≤ 6 ∧ D ≤ 6 ∧ SUi E D ∧ RES Φ k E D ∧ A k E D) → P := by
    rintro Φ ⟨k, D, E, _, _, _, r1, a1⟩ ⟨k2, D2, E2, _, _, _, r2, a2⟩
    obtain ⟨ek, eD, eE⟩ := RES_uq r1 r2
    subst ek
    subst eD
    exact hA _ _ _ _ eE a1 a2
  rcases hs with e | e
  · obtain ⟨h1, c1, c2⟩ := hc.1 e
    obtain ⟨d1, d2⟩ := m0 e
    have hh := hs_rel h h1 hq
    by_cases k : HSc L2
    · obtain ⟨n, hn, x⟩ := c1 k
      have e0 := rel_fr h h1 hq.1
      have et : ∀ a, a < 3 → ti (L2 (3 + a)) = ti (fP (J 0) a) := fun a ha => ti_ext (fun j x y => e0 a ha j.toNat (by omega))
      have hp : HP (fun a => L2 (3 + a)) (F 1) := by
        rw [hq.2]
        exact HP_c (fun a ha j x y => (e0 a ha j.toNat (by omega)).symm) HP_fo
      have en := HP_uq hn hp
      have eP : PHl L2 n = (fun x y => Fz (F 1).toNat (fI (J 0) 0) (fI (J 0) 1) (fI (J 0) 2) x y 1) := by
        unfold PHl
        rw [en, show ti (L2 3) = ti (fP (J 0) 0) from et 0 (by decide), show ti (L2 4) = ti (fP (J 0) 1) from et 1 (by decide), show ti (L2 5) = ti (fP (J 0) 2) from et 2 (by decide)]
        rfl
      rw [eP] at x
      exact fin x (d1 (hh.mp k))
    · exact hN (c2 k) (d2 (fun z => k (hh.mpr z)))
  · obtain ⟨c1, c2⟩ := hc.2 e
    obtain ⟨d1, d2⟩ := m1 e
    have hh := he_iff h
    by_cases k : HEc L
    · obtain ⟨n, hn, x⟩ := c1 k
      obtain ⟨et, hp⟩ := he_rel h
      have en := HP_uq hn hp
      have eP : PHe L n = (fun x y => Fe (moK r 5).toNat (ti (rP r 0)) (ti (rP r 1)) (ti (rP r 2)) x y 1) := by
        unfold PHe
        rw [en, et 0 (by decide), et 1 (by decide), et 2 (by decide)]
      rw [eP] at x
      exact fin x (d1 (hh.mp k))
    · exact hN (c2 k) (d2 (fun z => k (hh.mpr z)))
theorem Vl_c {E E' : Nat → Int} {D : Nat} {p q s : Int} (h : ∀ i, i < 49 → E i = E' i) : Vl E D p q s = Vl E' D p q s := by
  have k : ∀ {f g : Nat → Int} (n : Nat), (∀ i, i < n → f i = g i) → rsum f n = rsum g n := by
    intro f g n
    induction n with
    | zero => intro _; rfl
    | succ n ih =>
      intro e
      show rsum f n + f n = rsum g n + g n
      rw [ih (fun i hi => e i (by omega)), e n (by omega)]
  refine k 7 (fun a ha => k 7 (fun b hb => ?_))
  unfold tm
  rw [h (7 * a + b) (by omega)]
theorem trace_rel {L L2 J : Nat → Nat → Int64} {r : Nat → Int32} {F : Nat → Int} {sort x y : Int} (h : rel L r) (c0 : ¬ (sort = 0 ∨ sort = 1) → x = -1) (c1 : (sort = 0 ∨ sort = 1) → RSPc L L2 sort (fun _ _ D => x = (D : Int)) (x = -2)) (m0 : ¬ (sort = 0 ∨ sort = 1) → y = -1) (m1 : (sort = 0 ∨ sort = 1) → RSP r F J sort (fun _ _ D => y = (D : Int)) (y = -2)) : zI x = zI y := by
  congr 1
  by_cases q : sort = 0 ∨ sort = 1
  · exact rsp_rel h q (c1 q) (m1 q) (fun k D E E' _ a b => a.trans b.symm) (fun a b => a.trans b.symm)
  · rw [c0 q, m0 q]
theorem times_rel {L L2 J : Nat → Nat → Int64} {r : Nat → Int32} {F : Nat → Int} {sort x y : Int} (h : rel L r) (c0 : ¬ (sort = 0 ∨ sort = 1) → x = -1) (c1 : (sort = 0 ∨ sort = 1) → RSPc L L2 sort (fun k _ _ => x = (k : Int)) (x = -2)) (m0 : ¬ (sort = 0 ∨ sort = 1) → y = -1) (m1 : (sort = 0 ∨ sort = 1) → RSP r F J sort (fun k _ _ => y = (k : Int)) (y = -2)) : zI x = zI y := by
  congr 1
  by_cases q : sort = 0 ∨ sort = 1
  · exact rsp_rel h q (c1 q) (m1 q) (fun k D E E' _ a b => a.trans b.symm) (fun a b => a.trans b.symm)
  · rw [c0 q, m0 q]
theorem coef_rel {L L2 J : Nat → Nat → Int64} {r : Nat → Int32} {F : Nat → Int} {sort i j : Int} {x y : Int64} (h : rel L r) (c0 : ¬ ((sort = 0 ∨ sort = 1) ∧ 0 ≤ i ∧ i ≤ 6 ∧ 0 ≤ j ∧ j ≤ 6) → x = 0) (c1 : ((sort = 0 ∨ sort = 1) ∧ 0 ≤ i ∧ i ≤ 6 ∧ 0 ≤ j ∧ j ≤ 6) → RSPc L L2 sort (fun _ E _ => x.toInt = E (7 * i.toNat + j.toNat)) (x = 0)) (m0 : ¬ ((sort = 0 ∨ sort = 1) ∧ 0 ≤ i ∧ i ≤ 6 ∧ 0 ≤ j ∧ j ≤ 6) → y = 0) (m1 : ((sort = 0 ∨ sort = 1) ∧ 0 ≤ i ∧ i ≤ 6 ∧ 0 ≤ j ∧ j ≤ 6) → RSP r F J sort (fun _ E _ => y.toInt = E (7 * i.toNat + j.toNat)) (y = 0)) : x = y := by
  by_cases q : (sort = 0 ∨ sort = 1) ∧ 0 ≤ i ∧ i ≤ 6 ∧ 0 ≤ j ∧ j ≤ 6
  · refine rsp_rel h q.1 (c1 q) (m1 q) (fun k D E E' e a b => Int64.toInt_inj.mp ?_) (fun a b => a.trans b.symm)
    rw [a, b, e _ (by omega)]
  · rw [c0 q, m0 q]
theorem side_rel {L L2 J : Nat → Nat → Int64} {r : Nat → Int32} {F : Nat → Int} {sort pp qq ss x y : Int} {Q : Prop} (h : rel L r) (c0 : ¬ ((sort = 0 ∨ sort = 1) ∧ Q) → x = -9) (c1 : ((sort = 0 ∨ sort = 1) ∧ Q) → RSPc L L2 sort (fun _ E D => x = sg (Vl E D pp qq ss) ∧ (Vl E D pp qq ss).natAbs ≤ 9000000000000000000) (x = -8)) (m0 : ¬ ((sort = 0 ∨ sort = 1) ∧ Q) → y = -9) (m1 : ((sort = 0 ∨ sort = 1) ∧ Q) → RSP r F J sort (fun _ E D => (Vl E D pp qq ss).natAbs ≤ 9000000000000000000 → y = sg (Vl E D pp qq ss)) (y = -8)) : zI x = zI y := by
  congr 1
  by_cases q : (sort = 0 ∨ sort = 1) ∧ Q
  · refine rsp_rel h q.1 (c1 q) (m1 q) (fun k D E E' e a b => ?_) (fun a b => a.trans b.symm)
    rw [Vl_c e] at a
    exact a.1.trans (b a.2).symm
  · rw [c0 q, m0 q]
