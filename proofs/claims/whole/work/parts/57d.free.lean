/-! the divisor of three, part by part; the freed row -/
theorem EQ2.sl {X Y A B : Nat → Int} (h : EQ2 X Y A B) : EQ2 Y X A B := ⟨fun S c x y => h.1 S c y x, fun S c x y => h.2.1 S c y x, h.2.2.2, h.2.2.1⟩
theorem bx_bd {f : Nat → Int64} (h : bx 7 (ti f)) : bd f := fun i hi q => by
  have := h i
  rw [ti_lo f hi, q] at this
  exact absurd this (by decide)
theorem ti_zero {f : Nat → Int64} (h : ∀ j : Int, 0 ≤ j → j < 5 → f j.toNat = 0) : ti f = p0 := funext fun i => by
  by_cases q : i < 5
  · have := h (i : Int) (by omega) (by omega)
    rw [Int.toNat_natCast] at this
    exact (ti_0 q).mpr this
  · exact ti_hi f i (by omega)
def SG (X Y W : Nat → Int64) (i : Int) (s : Nat → Int64) : Prop := bd s ∧ RP s ∧ (i = 0 → ti s = p0) ∧ (i = 1 → EQ2 p0 (ti X) (ti s) p0) ∧ (i = 2 → EQ2 (ti X) (ti Y) (ti s) p0) ∧ (i = 3 → ∃ g1, EQ2 (ti X) (ti Y) g1 p0 ∧ EQ2 g1 (ti W) (ti s) p0)
theorem SG_0 {X Y W s : Nat → Int64} (h : ∀ j : Int, 0 ≤ j → j < 5 → s j.toNat = 0) : SG X Y W 0 s := by
  have e := ti_zero h
  have hb : bx 7 (ti s) := fun i => by rw [e]; exact Nat.zero_le _
  exact ⟨bx_bd hb, Or.inl hb, fun _ => e, fun q => by omega, fun q => by omega, fun q => by omega⟩
def P3 (X Y W : Nat → Int64) (i : Int) : Nat → Int64 := if i = 0 then X else if i = 1 then Y else W
theorem SG_sf {X Y W s o : Nat → Int64} {i : Int} (hX : bx 7 (ti X)) (hY : bx 7 (ti Y)) (hW : bx 7 (ti W)) (hi : 0 ≤ i ∧ i < 3) (h : SG X Y W i s) (ho : ti o = ti (P3 X Y W i)) : SF (ti s) (ti o) := by
  obtain ⟨hb, hr, h0, h1, h2, -⟩ := h
  rw [ho]
  rcases (show i = 0 ∨ i = 1 ∨ i = 2 by omega) with rfl | rfl | rfl
  · exact Or.inl fun i => by rw [h0 rfl]; rfl
  · have hz : ti (fun _ => (0 : Int64)) = p0 := ti_zero (fun _ _ _ => rfl)
    exact RP.ini (X := fun _ => 0) (Y := X) (fun i => by rw [hz]; exact Nat.zero_le _) hX (by rw [hz]; exact h1 rfl) hr hY
  · exact RP.ini hX hY (h2 rfl) hr hW
theorem SG_s {X Y W s o s1 : Nat → Int64} {i : Int} (hi : 0 ≤ i ∧ i < 3) (h : SG X Y W i s) (ho : ti o = ti (P3 X Y W i)) (e : EQ2 (ti s) (ti o) (ti s1) p0) (hb : bd s1) (hr : RP s1) : SG X Y W (i + 1) s1 := by
  obtain ⟨-, -, h0, h1, h2, -⟩ := h
  rw [ho] at e
  refine ⟨hb, hr, fun q => by omega, fun q => ?_, fun q => ?_, fun q => ?_⟩
  · have q : i = 0 := by omega
    subst q
    rw [h0 rfl] at e
    exact e
  · have q : i = 1 := by omega
    subst q
    exact (EQ2.fst (W := ti Y) (h1 rfl).sl).tr e
  · have q : i = 2 := by omega
    subst q
    exact ⟨ti s, h2 rfl, e⟩
theorem GG_of {X Y W s g : Nat → Int64} (h : SG X Y W 3 s) (hn : NPm s g) : GG X Y W g := by
  obtain ⟨g1, h1, h2⟩ := h.2.2.2.2.2 rfl
  obtain ⟨e, n, -, -⟩ := normX h2 h.1 hn
  exact ⟨g1, h1, e, n⟩
def FRs (P F : Nat → Nat → Int64) : Prop := ∃ (g : Nat → Int64) (d : Int), GG (P 0) (P 1) (P 2) g ∧ topz g d ∧ ∀ a, a < 3 → ∀ j : Int, 0 ≤ j → j < 5 → F a j.toNat = if 1 ≤ d then rq (P a) g d j else P a j.toNat
theorem topz_uq {f g : Nat → Int64} {a b : Int} (h : ∀ j, j < 5 → f j = g j) (h1 : topz f a) (h2 : topz g b) : a = b := by
  obtain ⟨a1, a2, a3⟩ := h1
  obtain ⟨b1, b2, b3⟩ := h2
  have e : ti f = ti g := ti_ext fun j x y => h j.toNat (by omega)
  have da := ti_dg a1 a2 a3
  have db := ti_dg b1 b2 b3
  rw [e] at da
  have := dgp_uq da db
  omega
theorem FRs_uq {P Q F E : Nat → Nat → Int64} (hPQ : ∀ a, a < 3 → ∀ j, j < 5 → P a j = Q a j) (h1 : FRs P F) (h2 : FRs Q E) : ∀ a, a < 3 → ∀ j : Int, 0 ≤ j → j < 5 → F a j.toNat = E a j.toNat := by
  obtain ⟨g, d, hg, tg, hF⟩ := h1
  obtain ⟨g1, d1, hg1, tg1, hE⟩ := h2
  have et : ∀ a, a < 3 → ti (P a) = ti (Q a) := fun a ha => ti_ext fun j x y => hPQ a ha j.toNat (by omega)
  have hg2 : GG (P 0) (P 1) (P 2) g1 := by
    obtain ⟨c, c1, c2, c3⟩ := hg1
    exact ⟨c, by rw [et 0 (by decide), et 1 (by decide)]; exact c1, by rw [et 2 (by decide)]; exact c2, c3⟩
  have eg := GG.uq hg hg2
  have ed := topz_uq eg tg tg1
  intro a ha j x y
  rw [hF a ha j x y, hE a ha j x y, ← ed]
  by_cases q : 1 ≤ d
  · rw [if_pos q, if_pos q]
    have := tg.1
    exact rq_c (by omega) x (hPQ a ha) eg
  · rw [if_neg q, if_neg q]
    exact hPQ a ha j.toNat (by omega)
