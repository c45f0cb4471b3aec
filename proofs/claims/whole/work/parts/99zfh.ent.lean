/-! the envelope's entries -/
def LG (E : Nat → Int64) (P0 P1 P2 Q0 Q1 Q2 : Int → Int64) (n r k : Int) : Prop := ∀ R C : Int, 0 ≤ R → R < 8 → 0 ≤ C → C < 8 → (R < n → (if 0 ≤ R + n - C ∧ R + n - C ≤ n ∧ (R < r ∨ (R = r ∧ R + n - C < k)) then E3at E R C (P0 (R + n - C)) (P1 (R + n - C)) (P2 (R + n - C)) else E3at E R C 0 0 0)) ∧ (n ≤ R → (if 0 ≤ R - C ∧ R - C ≤ n ∧ (R - n < r ∨ (R - n = r ∧ R - C < k)) then E3at E R C (Q0 (R - C)) (Q1 (R - C)) (Q2 (R - C)) else E3at E R C 0 0 0))
theorem LG_0 {E : Nat → Int64} {P0 P1 P2 Q0 Q1 Q2 : Int → Int64} {n : Int} (h : ∀ q : Int, 0 ≤ q → q < 192 → E q.toNat = 0) : LG E P0 P1 P2 Q0 Q1 Q2 n 0 0 := fun R C h1 h2 h3 h4 => by
  have e : E3at E R C 0 0 0 := ⟨h _ (by omega) (by omega), h _ (by omega) (by omega), h _ (by omega) (by omega)⟩
  refine ⟨fun hR => ?_, fun hR => ?_⟩
  · rw [if_neg (by omega)]
    exact e
  · rw [if_neg (by omega)]
    exact e
theorem LG_r {E : Nat → Int64} {P0 P1 P2 Q0 Q1 Q2 : Int → Int64} {n r k : Int} (hk : k = n + 1) (h : LG E P0 P1 P2 Q0 Q1 Q2 n r k) : LG E P0 P1 P2 Q0 Q1 Q2 n (r + 1) 0 := fun R C h1 h2 h3 h4 => by
  obtain ⟨a, b⟩ := h R C h1 h2 h3 h4
  refine ⟨fun hR => ?_, fun hR => ?_⟩
  · have a := a hR
    by_cases q : 0 ≤ R + n - C ∧ R + n - C ≤ n ∧ (R < r ∨ (R = r ∧ R + n - C < k))
    · rw [if_pos q] at a
      rw [if_pos (by omega)]
      exact a
    · rw [if_neg q] at a
      rw [if_neg (by omega)]
      exact a
  · have b := b hR
    by_cases q : 0 ≤ R - C ∧ R - C ≤ n ∧ (R - n < r ∨ (R - n = r ∧ R - C < k))
    · rw [if_pos q] at b
      rw [if_pos (by omega)]
      exact b
    · rw [if_neg q] at b
      rw [if_neg (by omega)]
      exact b
theorem LG_s {E Ea Eb : Nat → Int64} {P0 P1 P2 Q0 Q1 Q2 : Int → Int64} {n r k : Int} (hn : 1 ≤ n ∧ n ≤ 4) (hr : 0 ≤ r ∧ r < n) (hk : 0 ≤ k ∧ k ≤ n) (ea : ∀ q : Int, 0 ≤ q → Ea q.toNat = if q = 3 * (8 * r + (r + n - k)) + 2 then P2 k else if q = 3 * (8 * r + (r + n - k)) + 1 then P1 k else if q = 3 * (8 * r + (r + n - k)) then P0 k else E q.toNat) (eb : ∀ q : Int, 0 ≤ q → Eb q.toNat = if q = 3 * (8 * (n + r) + (r + n - k)) + 2 then Q2 k else if q = 3 * (8 * (n + r) + (r + n - k)) + 1 then Q1 k else if q = 3 * (8 * (n + r) + (r + n - k)) then Q0 k else Ea q.toNat) (h : LG E P0 P1 P2 Q0 Q1 Q2 n r k) : LG Eb P0 P1 P2 Q0 Q1 Q2 n r (k + 1) := fun R C h1 h2 h3 h4 => by
  obtain ⟨a, b⟩ := h R C h1 h2 h3 h4
  obtain ⟨a1, a2, a3⟩ := ent_at (by omega) (by omega) ea R C ⟨h1, h2⟩ ⟨h3, h4⟩
  obtain ⟨b1, b2, b3⟩ := ent_at (by omega) (by omega) eb R C ⟨h1, h2⟩ ⟨h3, h4⟩
  refine ⟨fun hR => ?_, fun hR => ?_⟩
  · have a := a hR
    rw [if_neg (by omega)] at b1 b2 b3
    by_cases q : R = r ∧ C = r + n - k
    · rw [if_pos q] at a1 a2 a3
      rw [if_pos (by omega), show R + n - C = k by omega]
      exact ⟨b1.trans a1, b2.trans a2, b3.trans a3⟩
    · rw [if_neg q] at a1 a2 a3
      by_cases p : 0 ≤ R + n - C ∧ R + n - C ≤ n ∧ (R < r ∨ (R = r ∧ R + n - C < k))
      · rw [if_pos p] at a
        rw [if_pos (by omega)]
        exact ⟨b1.trans (a1.trans a.1), b2.trans (a2.trans a.2.1), b3.trans (a3.trans a.2.2)⟩
      · rw [if_neg p] at a
        rw [if_neg (by omega)]
        exact ⟨b1.trans (a1.trans a.1), b2.trans (a2.trans a.2.1), b3.trans (a3.trans a.2.2)⟩
  · have b := b hR
    rw [if_neg (by omega)] at a1 a2 a3
    by_cases q : R = n + r ∧ C = r + n - k
    · rw [if_pos q] at b1 b2 b3
      rw [if_pos (by omega), show R - C = k by omega]
      exact ⟨b1, b2, b3⟩
    · rw [if_neg q] at b1 b2 b3
      by_cases p : 0 ≤ R - C ∧ R - C ≤ n ∧ (R - n < r ∨ (R - n = r ∧ R - C < k))
      · rw [if_pos p] at b
        rw [if_pos (by omega)]
        exact ⟨b1.trans (a1.trans b.1), b2.trans (a2.trans b.2.1), b3.trans (a3.trans b.2.2)⟩
      · rw [if_neg p] at b
        rw [if_neg (by omega)]
        exact ⟨b1.trans (a1.trans b.1), b2.trans (a2.trans b.2.1), b3.trans (a3.trans b.2.2)⟩
theorem LG_syl {E : Nat → Int64} {P0 P1 P2 Q0 Q1 Q2 : Int → Int64} {n r : Int} (hn : 1 ≤ n ∧ n ≤ 4) (hr : r = n) (h : LG E P0 P1 P2 Q0 Q1 Q2 n r 0) (t : Int) (f g : Nat → Int) (hf : ∀ k : Nat, k ≤ n.toNat → f k = (P0 k).toInt + (P1 k).toInt * t7 t + (P2 k).toInt * t) (hg : ∀ k : Nat, k ≤ n.toNat → g k = (Q0 k).toInt + (Q1 k).toInt * t7 t + (Q2 k).toInt * t) (R C : Nat) (hR : R < 2 * n.toNat) (hC : C < 2 * n.toNat) : Ey E R C t = sylI f g n.toNat R C := by
  subst hr
  obtain ⟨a, b⟩ := h R C (by omega) (by omega) (by omega) (by omega)
  unfold Ey
  rw [t7_e, show 3 * (8 * R + C) = (3 * (8 * (R : Int) + C)).toNat by omega, show (3 * (8 * (R : Int) + C)).toNat + 1 = (3 * (8 * (R : Int) + C) + 1).toNat by omega, show (3 * (8 * (R : Int) + C)).toNat + 2 = (3 * (8 * (R : Int) + C) + 2).toNat by omega]
  unfold sylI
  have z : (0 : Int64).toInt = 0 := rfl
  by_cases hRn : R < r.toNat
  · rw [if_pos hRn]
    have a := a (by omega)
    by_cases q : R ≤ C ∧ C ≤ R + r.toNat
    · rw [if_pos q]
      rw [if_pos (by omega)] at a
      obtain ⟨a1, a2, a3⟩ := a
      rw [a1, a2, a3, hf _ (by omega), show (((R + r.toNat - C : Nat)) : Int) = (R : Int) + r - C by omega]
    · rw [if_neg q]
      rw [if_neg (by omega)] at a
      obtain ⟨a1, a2, a3⟩ := a
      rw [a1, a2, a3, z]
      omega
  · rw [if_neg hRn]
    have b := b (by omega)
    by_cases q : C ≤ R ∧ R ≤ C + r.toNat
    · rw [if_pos q]
      rw [if_pos (by omega)] at b
      obtain ⟨a1, a2, a3⟩ := b
      rw [a1, a2, a3, hg _ (by omega), show (((R - C : Nat)) : Int) = (R : Int) - C by omega]
    · rw [if_neg q]
      rw [if_neg (by omega)] at b
      obtain ⟨a1, a2, a3⟩ := b
      rw [a1, a2, a3, z]
      omega
theorem lg_cg {E m : Nat → Int64} {P0 P1 P2 Q0 Q1 Q2 : Int → Int64} {n r : Int} (hn : 1 ≤ n ∧ n ≤ 4) (hr : r = n) (h : LG E P0 P1 P2 Q0 Q1 Q2 n r 0) (f g : Int → Nat → Int) (hf : ∀ t, ∀ k : Nat, k ≤ n.toNat → f t k = (P0 k).toInt + (P1 k).toInt * t7 t + (P2 k).toInt * t) (hg : ∀ t, ∀ k : Nat, k ≤ n.toNat → g t k = (Q0 k).toInt + (Q1 k).toInt * t7 t + (Q2 k).toInt * t) (hS : SS m (Ey E) (2 * n).toNat ((2 ^ (2 * n).toNat : Nat) : Int)) {fr : Int} (hfr : fr = 49 * (((2 ^ (2 * n).toNat : Nat) : Int) - 1)) : CG (pw id (fun i => m (fr.toNat + i)) 49) (fun t => sg1 n.toNat * Fq (f t) (g t) n.toNat) := by
  have hpos : 0 < 2 ^ (2 * n).toNat := Nat.two_pow_pos _
  have e1 := hS.1 (((2 ^ (2 * n).toNat : Nat) : Int) - 1) (by omega) (by omega)
  have e2 : slc m ((((2 ^ (2 * n).toNat : Nat) : Int) - 1).toNat) = fun i => m (fr.toNat + i) := funext fun i => by
    show m (49 * _ + i) = _
    congr 1
    omega
  rw [e2] at e1
  refine e1.tr (CG.ex (fun t => ?_))
  have e3 : (((2 ^ (2 * n).toNat : Nat) : Int) - 1).toNat = 2 ^ (2 * n.toNat) - 1 := by
    rw [show (2 * n).toNat = 2 * n.toNat by omega]
    have := Nat.two_pow_pos (2 * n.toNat)
    omega
  have hq : pc8 (2 ^ (2 * n.toNat) - 1) = 2 * n.toNat := by
    have : n.toNat = 1 ∨ n.toNat = 2 ∨ n.toNat = 3 ∨ n.toNat = 4 := by omega
    rcases this with e | e | e | e <;> rw [e] <;> decide
  unfold Sx
  rw [e3, hq, show (2 * n).toNat = 2 * n.toNat by omega, dI_c (2 * n.toNat) (fun R C hR hC => LG_syl hn hr h t (f t) (g t) (hf t) (hg t) R C hR hC), syl_F _ _ (by omega) (by omega)]
