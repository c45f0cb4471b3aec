/-! the greatest power with a coefficient other than 0 -/
def moK (r : Nat → Int32) : Nat → Int
  | 0 => 0
  | k + 1 => if r k ≠ 0 ∨ r (5 + k) ≠ 0 ∨ r (10 + k) ≠ 0 then (k : Int) else moK r k
theorem moK_s {r : Nat → Int32} {k : Int} (hk : 0 ≤ k) {a b d : Int} (ea : r k.toNat = zI a) (eb : r (5 + k).toNat = zI b) (ed : r (10 + k).toNat = zI d) (ra : zR a) (rb : zR b) (rd : zR d) : moK r (k + 1).toNat = if a ≠ 0 ∨ b ≠ 0 ∨ d ≠ 0 then k else moK r k.toNat := by
  obtain ⟨n, rfl⟩ := Int.eq_ofNat_of_zero_le hk
  have e1 : ((n : Int) + 1).toNat = n + 1 := by omega
  have e2 : (5 + (n : Int)).toNat = 5 + n := by omega
  have e3 : (10 + (n : Int)).toNat = 10 + n := by omega
  have e4 : ((n : Int)).toNat = n := rfl
  rw [e4] at ea
  rw [e2] at eb
  rw [e3] at ed
  rw [e1, e4]
  show (if r n ≠ 0 ∨ r (5 + n) ≠ 0 ∨ r (10 + n) ≠ 0 then (n : Int) else moK r n) = _
  have z0 : ∀ {x : Int}, zR x → (zI x ≠ 0 ↔ x ≠ 0) := fun hx => not_congr (zI_eq hx zR_0)
  rw [ea, eb, ed]
  simp only [z0 ra, z0 rb, z0 rd]
theorem moK_b (r : Nat → Int32) : ∀ k : Nat, 0 ≤ moK r k ∧ (moK r k < k ∨ (k = 0 ∧ moK r k = 0))
  | 0 => ⟨Int.le_refl 0, Or.inr ⟨rfl, rfl⟩⟩
  | k + 1 => by
    have ih := moK_b r k
    show 0 ≤ (if _ then (k : Int) else moK r k) ∧ _
    refine ⟨?_, Or.inl ?_⟩
    · split <;> omega
    · show (if _ then (k : Int) else moK r k) < _
      split <;> omega
theorem mo_1 {r : Nat → Int32} {k a : Int} (hk : 0 ≤ k) (ea : r k.toNat = zI a) (ra : zR a) (h : a ≠ 0) : k = moK r (k + 1).toNat := by
  obtain ⟨b, hb1, hb2, eb⟩ := zI_ex (r (5 + k).toNat)
  obtain ⟨d, hd1, hd2, ed⟩ := zI_ex (r (10 + k).toNat)
  rw [moK_s hk ea eb ed ra ⟨hb1, hb2⟩ ⟨hd1, hd2⟩, if_pos (Or.inl h)]
theorem mo_2 {r : Nat → Int32} {k b : Int} (hk : 0 ≤ k) (eb : r (5 + k).toNat = zI b) (rb : zR b) (h : b ≠ 0) : k = moK r (k + 1).toNat := by
  obtain ⟨a, ha1, ha2, ea⟩ := zI_ex (r k.toNat)
  obtain ⟨d, hd1, hd2, ed⟩ := zI_ex (r (10 + k).toNat)
  rw [moK_s hk ea eb ed ⟨ha1, ha2⟩ rb ⟨hd1, hd2⟩, if_pos (Or.inr (Or.inl h))]
theorem mo_3 {r : Nat → Int32} {k d : Int} (hk : 0 ≤ k) (ed : r (10 + k).toNat = zI d) (rd : zR d) (h : d ≠ 0) : k = moK r (k + 1).toNat := by
  obtain ⟨a, ha1, ha2, ea⟩ := zI_ex (r k.toNat)
  obtain ⟨b, hb1, hb2, eb⟩ := zI_ex (r (5 + k).toNat)
  rw [moK_s hk ea eb ed ⟨ha1, ha2⟩ ⟨hb1, hb2⟩ rd, if_pos (Or.inr (Or.inr h))]
theorem mo_0 {r : Nat → Int32} {k a b d x : Int} (hk : 0 ≤ k) (ea : r k.toNat = zI a) (eb : r (5 + k).toNat = zI b) (ed : r (10 + k).toNat = zI d) (ha : a = 0) (hb : b = 0) (hd : d = 0) (hx : x = moK r k.toNat) : x = moK r (k + 1).toNat := by
  subst ha; subst hb; subst hd
  rw [moK_s hk ea eb ed zR_0 zR_0 zR_0, if_neg (by simp), hx]
def knw (F : Nat → Int) (r : Nat → Int32) : Prop := F 2 = 1 → F 0 = moK r 5
