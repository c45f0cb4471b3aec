theorem cnt_s {r : Nat → Int32} {k n z x : Int} (hk : 0 ≤ k) (hn : n = cntK r k.toNat) (ez : r k.toNat = zI z) (hz : zR z) (hx : (z = 0 ∧ x = n + 0) ∨ (¬ z = 0 ∧ x = n + 1)) : x = cntK r (k + 1).toNat := by
  obtain ⟨m, rfl⟩ := Int.eq_ofNat_of_zero_le hk
  have e1 : ((m : Int) + 1).toNat = m + 1 := by omega
  have e2 : ((m : Int)).toNat = m := rfl
  rw [e2] at hn ez
  rw [e1]
  show x = cntK r m + (if r m = 0 then 0 else 1)
  rw [ez, ← hn]
  rcases hx with ⟨h1, h2⟩ | ⟨h1, h2⟩
  · rw [h1, if_pos (show zI 0 = 0 from rfl), h2]
  · rw [if_neg (show ¬ zI z = 0 from fun q => h1 ((zI_eq hz zR_0).mp q)), h2]
theorem clr_s {f f' r : Nat → Int32} {k : Int} (hk : 0 ≤ k) (e : f' = upd f k.toNat (zI 0)) (h : ∀ q : Int, 0 ≤ q → f q.toNat = if q < k then 0 else r q.toNat) : ∀ q : Int, 0 ≤ q → f' q.toNat = if q < k + 1 then 0 else r q.toNat := by
  intro q h1
  rw [e, upI_at hk h1]
  by_cases g : q = k
  · rw [if_pos g, if_pos (by omega)]; rfl
  · rw [if_neg g, h q h1]
    by_cases g2 : q < k
    · rw [if_pos g2, if_pos (by omega)]
    · rw [if_neg g2, if_neg (by omega)]
