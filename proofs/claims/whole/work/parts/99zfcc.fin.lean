/-! the envelope's end: content, cells, every lead -/
theorem lprim_dvd {f : List Int} (hf : lprim f) : ∀ (K : Nat) (n c : Int), n.natAbs ≤ K → (∀ j, n ∣ c * gd f j) → n ∣ c := by
  intro K
  induction K with
  | zero =>
    intro n c hn h
    have n0 : n = 0 := by omega
    subst n0
    obtain ⟨j, hj⟩ := hf 2 ⟨by decide, fun q h1 h2 => by have := Nat.le_of_dvd (by decide) h2; omega⟩
    have e := Int.zero_dvd.mp (h j)
    rcases Int.mul_eq_zero.mp e with r | r
    · rw [r]
      exact Int.dvd_refl 0
    · rw [r] at hj
      exact absurd (Int.dvd_zero _) hj
  | succ K ih =>
    intro n c hn h
    rcases Nat.lt_or_ge n.natAbs 2 with q | q
    · rcases Nat.lt_or_ge n.natAbs 1 with q1 | q1
      · exact ih n c (by omega) h
      · have : n = 1 ∨ n = -1 := by omega
        rcases this with r | r
        · rw [r]
          exact Int.one_dvd _
        · rw [r]
          exact ⟨-c, by omega⟩
    · obtain ⟨p, hp, hpn⟩ := irr_ex n.natAbs n.natAbs (Nat.le_refl _) q
      obtain ⟨j, hj⟩ := hf p hp
      have pn : (p : Int) ∣ n := Int.natAbs_dvd_natAbs.mp (show (p : Int).natAbs ∣ n.natAbs from hpn)
      obtain ⟨c', hc⟩ := hp.pm (Int.dvd_trans pn (h j)) hj
      obtain ⟨n', hn'⟩ := pn
      have p0 : (p : Int) ≠ 0 := by
        have := hp.1
        omega
      have hle : n'.natAbs ≤ K := by
        rw [hn', Int.natAbs_mul] at hn
        have h2 := hp.1
        have : 2 * n'.natAbs ≤ (p : Int).natAbs * n'.natAbs := Nat.mul_le_mul (by omega) (Nat.le_refl _)
        have : 0 < n'.natAbs := by
          rcases Nat.eq_zero_or_pos n'.natAbs with z | z
          · exfalso
            have : n' = 0 := by omega
            rw [this, Int.mul_zero] at hn'
            omega
          · exact z
        omega
      obtain ⟨d, hd⟩ := ih n' c' hle (fun i => by
        obtain ⟨e, he⟩ := h i
        refine ⟨e, Int.eq_of_mul_eq_mul_left p0 ?_⟩
        have a1 : (p : Int) * (c' * gd f i) = p * c' * gd f i := (Int.mul_assoc _ _ _).symm
        have a2 : (p : Int) * (n' * e) = p * n' * e := (Int.mul_assoc _ _ _).symm
        rw [a1, a2, ← hc, ← hn']
        exact he)
      exact ⟨d, by rw [hc, hn', hd, Int.mul_assoc]⟩
theorem ev_all (X Y W : Nat → Int) (hX : bx7 X) (hY : bx7 Y) (hW : bx7 W) (c : Int) (hc : c ≠ 0) (hp : cont X Y W c) (f E : Nat → Int) (hT : ∀ a b, a + b ≤ 6 → tTf X Y W a b = 27 * c * f (7 * a + b)) (k i0 j0 : Nat) (hk : 2 ≤ k) (hi : i0 % k = 0) (hj : j0 % k = 0) (h1 : 1 ≤ i0 + j0) (h6 : i0 + j0 ≤ 6) (z : zr k i0 j0 f E) : TP k f E := by
  have k6 : k ≤ 6 := by
    rcases Nat.lt_or_ge 6 k with q | q
    · exfalso
      rw [Nat.mod_eq_of_lt (by omega)] at hi hj
      omega
    · exact q
  have hk' : k = 2 ∨ k = 3 ∨ k = 4 ∨ k = 5 ∨ k = 6 := by omega
  have hi' : i0 = 0 ∨ i0 = 1 ∨ i0 = 2 ∨ i0 = 3 ∨ i0 = 4 ∨ i0 = 5 ∨ i0 = 6 := by omega
  have hj' : j0 = 0 ∨ j0 = 1 ∨ j0 = 2 ∨ j0 = 3 ∨ j0 = 4 ∨ j0 = 5 ∨ j0 = 6 := by omega
  rcases hk' with e | e | e | e | e <;> subst e <;> rcases hi' with e | e | e | e | e | e | e <;> subst e <;> rcases hj' with e | e | e | e | e | e | e <;> subst e <;> first
    | (exfalso; omega)
    | exact ev2_60 X Y W hX hY hW c hc hp f E hT z
    | exact ev2_42 X Y W hX hY hW c hc hp f E hT z
    | exact ev2_24 X Y W hX hY hW c hc hp f E hT z
    | exact ev2_06 X Y W hX hY hW c hc hp f E hT z
    | exact ev2_40 X Y W hX hY hW c hc hp f E hT z
    | exact ev2_04 X Y W hX hY hW c hc hp f E hT z
    | exact ev2_22 X Y W hX hY hW c hc hp f E hT z
    | exact ev2_20 X Y W hX hY hW c hc hp f E hT z
    | exact ev2_02 X Y W hX hY hW c hc hp f E hT z
    | exact ev3_60 X Y W hX hY hW c hc hp f E hT z
    | exact ev3_33 X Y W hX hY hW c hc hp f E hT z
    | exact ev3_06 X Y W hX hY hW c hc hp f E hT z
    | exact ev3_30 X Y W hX hY hW c hc hp f E hT z
    | exact ev3_03 X Y W hX hY hW c hc hp f E hT z
    | exact ev6_60 X Y W hX hY hW c hc hp f E hT z
    | exact ev6_06 X Y W hX hY hW c hc hp f E hT z
    | exact ev5_50 X Y W hX hY hW c hc hp f E hT z
    | exact ev5_05 X Y W hX hY hW c hc hp f E hT z
    | exact ev4_40 X Y W hX hY hW c hc hp f E hT z
    | exact ev4_04 X Y W hX hY hW c hc hp f E hT z
theorem ew_all {S : Nat → Nat → Int} {f E : Nat → Int} {c : Int} (hc : c ≠ 0) (bS : ∀ a b, (S a b).natAbs ≤ 5157348) (hS : ∀ a b, a + b ≤ 4 → S a b = c * f (7 * a + b)) (k i0 j0 : Nat) (hk : 2 ≤ k) (hi : i0 % k = 0) (hj : j0 % k = 0) (h1 : 1 ≤ i0 + j0) (h6 : i0 + j0 ≤ 4) (z : zr k i0 j0 f E) : TP k f E := by
  have k6 : k ≤ 4 := by
    rcases Nat.lt_or_ge 4 k with q | q
    · exfalso
      rw [Nat.mod_eq_of_lt (by omega)] at hi hj
      omega
    · exact q
  have hk' : k = 2 ∨ k = 3 ∨ k = 4 := by omega
  have hi' : i0 = 0 ∨ i0 = 1 ∨ i0 = 2 ∨ i0 = 3 ∨ i0 = 4 := by omega
  have hj' : j0 = 0 ∨ j0 = 1 ∨ j0 = 2 ∨ j0 = 3 ∨ j0 = 4 := by omega
  rcases hk' with e | e | e <;> subst e <;> rcases hi' with e | e | e | e | e <;> subst e <;> rcases hj' with e | e | e | e | e <;> subst e <;> first
    | (exfalso; omega)
    | exact ew2_40 hc bS hS z
    | exact ew2_22 hc bS hS z
    | exact ew2_04 hc bS hS z
    | exact ew2_20 hc bS hS z
    | exact ew2_02 hc bS hS z
    | exact ew3_30 hc bS hS z
    | exact ew3_03 hc bS hS z
    | exact ew4_40 hc bS hS z
    | exact ew4_04 hc bS hS z
