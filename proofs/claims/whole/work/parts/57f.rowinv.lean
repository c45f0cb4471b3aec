/-! the class's freed row, carried along -/
def bL (L : Nat → Nat → Int64) : Prop := ∀ a, a < 3 → bx 7 (ti (L a))
def FI (G : Nat → Int) (L : Nat → Nat → Int64) : Prop := G 0 = 1 → FRs L (fun a => L (3 + a))
theorem FRs_c {P Q F E : Nat → Nat → Int64} (h1 : ∀ a, a < 3 → P a = Q a) (h2 : ∀ a, a < 3 → F a = E a) (h : FRs P F) : FRs Q E := by
  obtain ⟨g, d, hg, ht, hF⟩ := h
  refine ⟨g, d, ?_, ht, fun a ha j x y => ?_⟩
  · rw [← h1 0 (by decide), ← h1 1 (by decide), ← h1 2 (by decide)]
    exact hg
  · rw [← h1 a ha, ← h2 a ha]
    exact hF a ha j x y
theorem FI_k {G G2 : Nat → Int} {L L2 : Nat → Nat → Int64} (h : FI G L) (hg : G2 0 = G 0) (hl : ∀ k, k < 6 → L2 k = L k) : FI G2 L2 := fun q => FRs_c (fun a ha => (hl a (by omega)).symm) (fun a ha => (hl (3 + a) (by omega)).symm) (h (by omega))
theorem FI_f {G : Nat → Int} {L L2 : Nat → Nat → Int64} (h3 : ∀ k, k < 3 → L2 k = L k) (h : FRs L (fun a => L2 (3 + a))) : FI G L2 := fun _ => FRs_c (fun a ha => (h3 a ha).symm) (fun _ _ => rfl) h
theorem bL_k {L L2 : Nat → Nat → Int64} (h : bL L) (hl : ∀ k, k < 3 → L2 k = L k) : bL L2 := fun a ha => by
  rw [hl a ha]
  exact h a ha
theorem rel_bL {L : Nat → Nat → Int64} {r : Nat → Int32} (h : rel L r) : bL L := fun a ha => by
  have e : ti (L a) = ti (rP r a) := ti_ext fun j x y => h.1 a ha j.toNat (by omega)
  rw [e]
  exact rp_bx h.2 ha
theorem rel_fr {L F E : Nat → Nat → Int64} {r : Nat → Int32} (h : rel L r) (h1 : FRs L F) (h2 : FRs (rP r) E) : ∀ a, a < 3 → ∀ j, j < 5 → F a j = E a j := fun a ha j hj => by
  have := FRs_uq (fun a ha j hj => h.1 a ha j hj) h1 h2 a ha (j : Int) (by omega) (by omega)
  rw [Int.toNat_natCast] at this
  exact this
theorem freed_rel {L L2 J2 : Nat → Nat → Int64} {r : Nat → Int32} {F2 : Nat → Int} {wh i x y : Int} (h : rel L r) (c0 : ¬ (0 ≤ wh ∧ wh ≤ 2 ∧ 0 ≤ i ∧ i ≤ 4) → x = -1000000) (c1 : (0 ≤ wh ∧ wh ≤ 2 ∧ 0 ≤ i ∧ i ≤ 4) → FRs L (fun a => L2 (3 + a)) ∧ (L2 (3 + wh.toNat) i.toNat).toInt32 = zI x) (m0 : ¬ (0 ≤ wh ∧ wh ≤ 2 ∧ 0 ≤ i ∧ i ≤ 4) → y = -1000000) (m1 : (0 ≤ wh ∧ wh ≤ 2 ∧ 0 ≤ i ∧ i ≤ 4) → FQ r F2 (J2 0) ∧ (J2 0 (5 * wh + i).toNat).toInt32 = zI y) : zI x = zI y := by
  by_cases q : 0 ≤ wh ∧ wh ≤ 2 ∧ 0 ≤ i ∧ i ≤ 4
  · obtain ⟨f1, e1⟩ := c1 q
    obtain ⟨f2, e2⟩ := m1 q
    have e := rel_fr h f1 f2.1 wh.toNat (by omega) i.toNat (by omega)
    rw [← e1, ← e2, show (5 * wh + i).toNat = 5 * wh.toNat + i.toNat by omega]
    exact congrArg Int64.toInt32 e
  · rw [c0 q, m0 q]
theorem hp_fo {L : Nat → Nat → Int64} {f : Nat → Int64} {n : Int} (he : ∀ a, a < 3 → ∀ j, j < 5 → L a j = fP f a j) (hp : HP L n) : n = foK f 5 := by
  obtain ⟨⟨h0, h4⟩, hz, hn⟩ := hp
  have key : ∀ k : Nat, k < 5 → ((L 0 k = 0 ∧ L 1 k = 0 ∧ L 2 k = 0) ↔ (f k = 0 ∧ f (5 + k) = 0 ∧ f (10 + k) = 0)) := fun k hk => by
    rw [he 0 (by decide) k hk, he 1 (by decide) k hk, he 2 (by decide) k hk]
    show (f (5 * 0 + k) = 0 ∧ f (5 * 1 + k) = 0 ∧ f (5 * 2 + k) = 0) ↔ _
    rw [show 5 * 0 + k = k by omega, show 5 * 1 + k = 5 + k by omega, show 5 * 2 + k = 10 + k by omega]
  obtain ⟨m, rfl⟩ := Int.eq_ofNat_of_zero_le h0
  have step : ∀ k : Nat, k < 5 → m < k → foK f (k + 1) = foK f k := fun k hk hgt => by
    have h2 := (key k hk).mp (by have := hz (k : Int) (by omega) (by omega); rw [Int.toNat_natCast] at this; exact this)
    show (if _ then _ else _) = _
    rw [if_neg (by rw [h2.1, h2.2.1, h2.2.2]; decide)]
  have hd : ∀ j, m + 1 + j ≤ 5 → foK f (m + 1 + j) = foK f (m + 1) := by
    intro j
    induction j with
    | zero => intro _; rfl
    | succ j ih =>
      intro hj
      rw [show m + 1 + (j + 1) = (m + 1 + j) + 1 by omega, step _ (by omega) (by omega), ih (by omega)]
  have h5 : foK f 5 = foK f (m + 1) := by
    have := hd (4 - m) (by omega)
    rwa [show m + 1 + (4 - m) = 5 by omega] at this
  rw [h5]
  show _ = if _ then _ else _
  by_cases hm : 0 < m
  · rw [if_pos ?_]
    have h6 := hn (by omega)
    rw [Int.toNat_natCast, key m (by omega)] at h6
    by_cases q1 : f m = 0
    · by_cases q2 : f (5 + m) = 0
      · exact Or.inr (Or.inr (fun q3 => h6 ⟨q1, q2, q3⟩))
      · exact Or.inr (Or.inl q2)
    · exact Or.inl q1
  · have : m = 0 := by omega
    subst this
    split <;> rfl
def dgx (L L2 : Nat → Nat → Int64) (what x : Int) : Prop := (what = 1 ∨ what = 2) → ∃ n nf : Int, HP L n ∧ HP (fun a => L2 (3 + a)) nf ∧ FRs L (fun a => L2 (3 + a)) ∧ (what = 1 → x = nf) ∧ (what = 2 → x = n - nf)
theorem degree_rel {L L2 J2 : Nat → Nat → Int64} {r : Nat → Int32} {F2 : Nat → Int} {what x y : Int} (h : rel L r) (c0 : ¬ (0 ≤ what ∧ what ≤ 2) → x = -1) (c1 : what = 0 → HP L x) (c2 : dgx L L2 what x) (m0 : ¬ (0 ≤ what ∧ what ≤ 2) → y = -1) (m1 : what = 0 → y = moK r 5) (m2 : what = 1 → y = F2 1 ∧ FQ r F2 (J2 0)) (m3 : what = 2 → y = moK r 5 - F2 1 ∧ FQ r F2 (J2 0)) : zI x = zI y := by
  congr 1
  by_cases q : 0 ≤ what ∧ what ≤ 2
  · by_cases q0 : what = 0
    · rw [m1 q0]
      exact hp_mo h (c1 q0)
    · obtain ⟨n, nf, hn, hf, fr, e1, e2⟩ := c2 (by omega)
      have en := hp_mo h hn
      by_cases q1 : what = 1
      · obtain ⟨ey, fq⟩ := m2 q1
        have ef := hp_fo (fun a ha j hj => rel_fr h fr fq.1 a ha j hj) hf
        rw [e1 q1, ey, fq.2, ef]
      · obtain ⟨ey, fq⟩ := m3 (by omega)
        have ef := hp_fo (fun a ha j hj => rel_fr h fr fq.1 a ha j hj) hf
        rw [e2 (by omega), ey, fq.2, ef, en]
  · rw [c0 q, m0 q]
