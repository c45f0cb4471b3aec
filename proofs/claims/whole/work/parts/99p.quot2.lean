theorem rq_ex {X g : Nat → Int64} {c : List Int} {d : Int} (hd : 1 ≤ d ∧ d ≤ 4) (hX : bx 7 (ti X)) (tg : top (ti g) d.toNat) (hg : (ti g d.toNat).natAbs ≤ 7) (h : ∀ i, ti X i = conv c (ti g) i) : ∀ j : Int, 0 ≤ j → j < 5 → rq X g d j = zL (gd c j.toNat) := by
  have qs := (q_small (d := d.toNat) (by omega) hX (fun i hi => ti_hi X i (by omega)) tg h)
  have hz := qs.2.2.2.2
  have hb := qs.1
  have x := fun j (hj : j < 5) => ti_zL X hj
  have y := fun j (hj : j < 5) => ti_zL g hj
  have X1 := (h 1).trans (conv_e2 (ti g) c)
  have X2 := (h 2).trans (conv_e3 (ti g) c)
  have X3 := (h 3).trans (conv_e4 (ti g) c)
  have X4 := (h 4).trans (conv_e5 (ti g) c)
  have dv : ∀ j, zL (gd c j * ti g d.toNat) / zL (ti g d.toNat) = zL (gd c j) := fun j => zL_div tg.1 (by
    have := nm_b (hb j) hg
    omega) (by omega)
  have : d = 1 ∨ d = 2 ∨ d = 3 ∨ d = 4 := by omega
  have zz : ∀ j : Int, 4 - d < j → rq X g d j = zL (gd c j.toNat) := fun j hj => by
    rw [hz j.toNat (by omega)]
    exact if_neg (by omega)
  rcases this with rfl | rfl | rfl | rfl
  · have hz4 := hz 4 (by decide)
    rw [tg.2 2 (by decide)] at X2 X3 X4
    rw [tg.2 3 (by decide)] at X3 X4
    rw [tg.2 4 (by decide), hz4] at X4
    simp only [Int.mul_zero, Int.zero_mul, Int.zero_add, Int.add_zero] at X2 X3 X4
    have r3 : rq X g 1 3 = zL (gd c 3) := by
      have e : rq X g 1 3 = X 4 / g 1 := rfl
      rw [e, x 4 (by decide), y 1 (by decide), X4]
      exact dv 3
    have r2 : rq X g 1 2 = zL (gd c 2) := by
      have e : rq X g 1 2 = (X 3 - rq X g 1 3 * g 0) / g 1 := rfl
      rw [e, r3, x 3 (by decide), y 0 (by decide), y 1 (by decide), zL_ms, X3, show gd c 2 * ti g 1 + gd c 3 * ti g 0 - gd c 3 * ti g 0 = gd c 2 * ti g 1 by omega]
      exact dv 2
    have r1 : rq X g 1 1 = zL (gd c 1) := by
      have e : rq X g 1 1 = (X 2 - rq X g 1 2 * g 0) / g 1 := rfl
      rw [e, r2, x 2 (by decide), y 0 (by decide), y 1 (by decide), zL_ms, X2, show gd c 1 * ti g 1 + gd c 2 * ti g 0 - gd c 2 * ti g 0 = gd c 1 * ti g 1 by omega]
      exact dv 1
    have r0 : rq X g 1 0 = zL (gd c 0) := by
      have e : rq X g 1 0 = (X 1 - rq X g 1 1 * g 0) / g 1 := rfl
      rw [e, r1, x 1 (by decide), y 0 (by decide), y 1 (by decide), zL_ms, X1, show gd c 0 * ti g 1 + gd c 1 * ti g 0 - gd c 1 * ti g 0 = gd c 0 * ti g 1 by omega]
      exact dv 0
    intro j h1 h2
    have : j = 0 ∨ j = 1 ∨ j = 2 ∨ j = 3 ∨ j = 4 := by omega
    rcases this with rfl | rfl | rfl | rfl | rfl
    · exact r0
    · exact r1
    · exact r2
    · exact r3
    · exact zz 4 (by decide)
  · have hz3 := hz 3 (by decide)
    have hz4 := hz 4 (by decide)
    rw [tg.2 3 (by decide), hz3] at X3 X4
    rw [tg.2 4 (by decide), hz4] at X4
    simp only [Int.mul_zero, Int.zero_mul, Int.zero_add, Int.add_zero] at X3 X4
    have r2 : rq X g 2 2 = zL (gd c 2) := by
      have e : rq X g 2 2 = X 4 / g 2 := rfl
      rw [e, x 4 (by decide), y 2 (by decide), X4]
      exact dv 2
    have r1 : rq X g 2 1 = zL (gd c 1) := by
      have e : rq X g 2 1 = (X 3 - rq X g 2 2 * g 1) / g 2 := rfl
      rw [e, r2, x 3 (by decide), y 1 (by decide), y 2 (by decide), zL_ms, X3, show gd c 1 * ti g 2 + gd c 2 * ti g 1 - gd c 2 * ti g 1 = gd c 1 * ti g 2 by omega]
      exact dv 1
    have r0 : rq X g 2 0 = zL (gd c 0) := by
      have e : rq X g 2 0 = (X 2 - rq X g 2 2 * g 0 - rq X g 2 1 * g 1) / g 2 := rfl
      rw [e, r2, r1, x 2 (by decide), y 0 (by decide), y 1 (by decide), y 2 (by decide), zL_ms, zL_ms, X2, show gd c 0 * ti g 2 + (gd c 1 * ti g 1 + gd c 2 * ti g 0) - gd c 2 * ti g 0 - gd c 1 * ti g 1 = gd c 0 * ti g 2 by omega]
      exact dv 0
    intro j h1 h2
    have : j = 0 ∨ j = 1 ∨ j = 2 ∨ j = 3 ∨ j = 4 := by omega
    rcases this with rfl | rfl | rfl | rfl | rfl
    · exact r0
    · exact r1
    · exact r2
    · exact zz 3 (by decide)
    · exact zz 4 (by decide)
  · have hz2 := hz 2 (by decide)
    have hz3 := hz 3 (by decide)
    have hz4 := hz 4 (by decide)
    rw [hz2, hz3] at X3 X4
    rw [tg.2 4 (by decide), hz4] at X4
    simp only [Int.mul_zero, Int.zero_mul, Int.zero_add, Int.add_zero] at X3 X4
    have r1 : rq X g 3 1 = zL (gd c 1) := by
      have e : rq X g 3 1 = X 4 / g 3 := rfl
      rw [e, x 4 (by decide), y 3 (by decide), X4]
      exact dv 1
    have r0 : rq X g 3 0 = zL (gd c 0) := by
      have e : rq X g 3 0 = (X 3 - rq X g 3 1 * g 2) / g 3 := rfl
      rw [e, r1, x 3 (by decide), y 2 (by decide), y 3 (by decide), zL_ms, X3, show gd c 0 * ti g 3 + gd c 1 * ti g 2 - gd c 1 * ti g 2 = gd c 0 * ti g 3 by omega]
      exact dv 0
    intro j h1 h2
    have : j = 0 ∨ j = 1 ∨ j = 2 ∨ j = 3 ∨ j = 4 := by omega
    rcases this with rfl | rfl | rfl | rfl | rfl
    · exact r0
    · exact r1
    · exact zz 2 (by decide)
    · exact zz 3 (by decide)
    · exact zz 4 (by decide)
  · rw [hz 1 (by decide), hz 2 (by decide), hz 3 (by decide), hz 4 (by decide)] at X4
    simp only [Int.mul_zero, Int.zero_mul, Int.zero_add, Int.add_zero] at X4
    have r0 : rq X g 4 0 = zL (gd c 0) := by
      have e : rq X g 4 0 = X 4 / g 4 := rfl
      rw [e, x 4 (by decide), y 4 (by decide), X4]
      exact dv 0
    intro j h1 h2
    have : j = 0 ∨ j = 1 ∨ j = 2 ∨ j = 3 ∨ j = 4 := by omega
    rcases this with rfl | rfl | rfl | rfl | rfl
    · exact r0
    · exact zz 1 (by decide)
    · exact zz 2 (by decide)
    · exact zz 3 (by decide)
    · exact zz 4 (by decide)
/-- the freed row: X = g q, q small -/
theorem FRs_q {P F : Nat → Nat → Int64} (hP : ∀ a, a < 3 → bx 7 (ti (P a))) (h : FRs P F) : ∃ (g : Nat → Int) (d : Nat), d ≤ 4 ∧ top g d ∧ ∀ a, a < 3 → qsm d (ti (F a)) ∧ (d = 0 → ∀ i, (ti (F a) i).natAbs ≤ 7) ∧ ∀ t, pv (ti (P a)) t = pv g t * pv (ti (F a)) t := by
  obtain ⟨g, d, hg, tz, hF⟩ := h
  obtain ⟨g1, e1, e2, nm⟩ := hg
  by_cases hd : 1 ≤ d
  · obtain ⟨t1, t2, t3⟩ := tz
    have tg : top (ti g) d.toNat := by
      refine ⟨fun z => t3 (by omega) ((ti_0 (by omega)).mp z), fun i hi => ?_⟩
      by_cases q : i < 5
      · have := t2 (i : Int) (by omega) (by omega)
        rw [Int.toNat_natCast] at this
        exact (ti_0 q).mpr this
      · exact ti_hi g i (by omega)
    have pr : Pr (ti g) := by
      rcases nm with z | ⟨d', _, _, pr⟩
      · exact absurd (z d.toNat) tg.1
      · exact pr
    have rs : ∀ a, a < 3 → RS (ti g) p0 (ti (P a)) := fun a ha => by
      have k1 : RS (ti g) p0 g1 := e2.2.2.1
      have k0 : ∀ S : (Nat → Int) → Prop, Cl S → S (ti g) → S p0 → S g1 ∧ S p0 := fun S c x y => ⟨k1 S c x y, y⟩
      have : a = 0 ∨ a = 1 ∨ a = 2 := by omega
      rcases this with rfl | rfl | rfl
      · exact fun S c x y => e1.2.2.1 S c (k0 S c x y).1 y
      · exact fun S c x y => e1.2.2.2 S c (k0 S c x y).1 y
      · exact e2.2.2.2
    have hc : ∀ a, a < 3 → ∃ c : List Int, ∀ i, ti (P a) i = conv c (ti g) i := fun a ha => quo pr (rs a ha)
    have hgd : (ti g d.toNat).natAbs ≤ 7 := by
      apply Classical.byContradiction
      intro z
      have z0 : ∀ a, a < 3 → ∀ i, ti (P a) i = 0 := fun a ha => Classical.byContradiction fun hn => by
        obtain ⟨c, hc⟩ := hc a ha
        exact z (top_le (hP a ha) tg hc hn)
      have zg1 := rs_zero (z0 0 (by decide)) (z0 1 (by decide)) e1.1
      exact tg.1 (rs_zero zg1 (z0 2 (by decide)) e2.1 d.toNat)
    refine ⟨ti g, d.toNat, by omega, tg, fun a ha => ?_⟩
    obtain ⟨c, hc⟩ := hc a ha
    have hr := rq_ex ⟨hd, by omega⟩ (hP a ha) tg hgd hc
    have qs := q_small (d := d.toNat) (by omega) (hP a ha) (fun i hi => ti_hi (P a) i (by omega)) tg hc
    have hF2 : ti (F a) = gd c := funext fun i => by
      by_cases q : i < 5
      · have e := hF a ha (i : Int) (by omega) (by omega)
        rw [if_pos hd, hr (i : Int) (by omega) (by omega), Int.toNat_natCast] at e
        rw [ti_lo _ q, e]
        have := qs.1 i
        exact zL_toInt (by omega) (by omega)
      · rw [ti_hi _ i (by omega), qs.2.2.2.2 i (by omega)]
    refine ⟨by rw [hF2]; exact qs, fun e => by omega, fun t => ?_⟩
    rw [hF2]
    have l1 : evl (lmul c [ti g 0, ti g 1, ti g 2, ti g 3, ti g 4]) t = evl [ti (P a) 0, ti (P a) 1, ti (P a) 2, ti (P a) 3, ti (P a) 4] t := evl_gd (fun i => by
      rw [gd_mul]
      have eg : gd [ti g 0, ti g 1, ti g 2, ti g 3, ti g 4] = ti g := funext fun i => by
        match i with
        | 0 => rfl
        | 1 => rfl
        | 2 => rfl
        | 3 => rfl
        | 4 => rfl
        | i + 5 => rw [ti_hi g (i + 5) (by omega)]; rfl
      rw [eg, ← hc i]
      match i with
      | 0 => rfl
      | 1 => rfl
      | 2 => rfl
      | 3 => rfl
      | 4 => rfl
      | i + 5 => rw [ti_hi (P a) (i + 5) (by omega)]; rfl) t
    have l2 : evl c t = evl [gd c 0, gd c 1, gd c 2, gd c 3, gd c 4] t := evl_gd (fun i => by
      match i with
      | 0 => rfl
      | 1 => rfl
      | 2 => rfl
      | 3 => rfl
      | 4 => rfl
      | i + 5 => rw [qs.2.2.2.2 (i + 5) (by omega)]; rfl) t
    rw [evl_mul, l2] at l1
    simp only [evl] at l1
    unfold pv
    generalize gd c 0 = c0 at *
    generalize gd c 1 = c1 at *
    generalize gd c 2 = c2 at *
    generalize gd c 3 = c3 at *
    generalize gd c 4 = c4 at *
    clear hr qs hF2 l2 hF hc hP
    grind
  · have hF2 : ∀ a, a < 3 → ti (F a) = ti (P a) := fun a ha => ti_ext (fun j x y => by rw [hF a ha j x (by omega), if_neg hd])
    refine ⟨fun i => if i = 0 then 1 else 0, 0, by omega, ⟨by decide, fun i hi => if_neg (by omega)⟩, fun a ha => ?_⟩
    have b := hP a ha
    rw [hF2 a ha]
    refine ⟨⟨fun j => by have := b j; omega, fun e => absurd e (by decide), fun e => absurd e (by decide), fun e => absurd e (by decide), fun j hj => ti_hi _ j (by omega)⟩, fun _ => b, fun t => ?_⟩
    have : pv (fun i => if i = 0 then 1 else 0) t = 1 := by
      unfold pv
      simp
    rw [this, Int.one_mul]
