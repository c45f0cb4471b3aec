/-! the greatest power with a coefficient other than 0 -/
def moK (r : Nat → Int32) : Nat → Int
  | 0 => 0
  | k + 1 => if r k ≠ 0 ∨ r (5 + k) ≠ 0 ∨ r (10 + k) ≠ 0 then (k : Int) else moK r k
theorem moK_s {r : Nat → Int32} {k : Int} (hk : 0 ≤ k) {a b d : Int} (ea : r k.toNat = zI a) (eb : r (5 + k).toNat = zI b) (ed : r (10 + k).toNat = zI d) (ra : zR a) (rb : zR b) (rd : zR d) : moK r (k + 1).toNat = if a ≠ 0 ∨ b ≠ 0 ∨ d ≠ 0 then k else moK r k.toNat := by
  obtain ⟨n, rfl⟩ := Int.eq_ofNat_of_zero_le hk
  have e1 : ((n : Int) + 1).toNat = n + 1 := by omega
  have e2 : (5 + (n : Int)).toNat = 5 + n := by omega
  have e3 : (10 + (n : Int)).toNat = 10 + n := by omega
  have e4 : ((n : Int)).toNat = n := rfl
  rw [e4] at ea
  rw [e2] at eb
  rw [e3] at ed
  rw [e1, e4]
  show (if r n ≠ 0 ∨ r (5 + n) ≠ 0 ∨ r (10 + n) ≠ 0 then (n : Int) else moK r n) = _
  have z0 : ∀ {x : Int}, zR x → (zI x ≠ 0 ↔ x ≠ 0) := fun hx => not_congr (zI_eq hx zR_0)
  rw [ea, eb, ed]
  simp only [z0 ra, z0 rb, z0 rd]
theorem moK_b (r : Nat → Int32) : ∀ k : Nat, 0 ≤ moK r k ∧ (moK r k < k ∨ (k = 0 ∧ moK r k = 0))
  | 0 => ⟨Int.le_refl 0, Or.inr ⟨rfl, rfl⟩⟩
  | k + 1 => by
    have ih := moK_b r k
    show 0 ≤ (if _ then (k : Int) else moK r k) ∧ _
    refine ⟨?_, Or.inl ?_⟩
    · split <;> omega
    · show (if _ then (k : Int) else moK r k) < _
      split <;> omega
theorem mo_1 {r : Nat → Int32} {k a : Int} (hk : 0 ≤ k) (ea : r k.toNat = zI a) (ra : zR a) (h : a ≠ 0) : k = moK r (k + 1).toNat := by
  obtain ⟨b, hb1, hb2, eb⟩ := zI_ex (r (5 + k).toNat)
  obtain ⟨d, hd1, hd2, ed⟩ := zI_ex (r (10 + k).toNat)
  rw [moK_s hk ea eb ed ra ⟨hb1, hb2⟩ ⟨hd1, hd2⟩, if_pos (Or.inl h)]
theorem mo_2 {r : Nat → Int32} {k b : Int} (hk : 0 ≤ k) (eb : r (5 + k).toNat = zI b) (rb : zR b) (h : b ≠ 0) : k = moK r (k + 1).toNat := by
  obtain ⟨a, ha1, ha2, ea⟩ := zI_ex (r k.toNat)
  obtain ⟨d, hd1, hd2, ed⟩ := zI_ex (r (10 + k).toNat)
  rw [moK_s hk ea eb ed ⟨ha1, ha2⟩ rb ⟨hd1, hd2⟩, if_pos (Or.inr (Or.inl h))]
theorem mo_3 {r : Nat → Int32} {k d : Int} (hk : 0 ≤ k) (ed : r (10 + k).toNat = zI d) (rd : zR d) (h : d ≠ 0) : k = moK r (k + 1).toNat := by
  obtain ⟨a, ha1, ha2, ea⟩ := zI_ex (r k.toNat)
  obtain ⟨b, hb1, hb2, eb⟩ := zI_ex (r (5 + k).toNat)
  rw [moK_s hk ea eb ed ⟨ha1, ha2⟩ ⟨hb1, hb2⟩ rd, if_pos (Or.inr (Or.inr h))]
theorem mo_0 {r : Nat → Int32} {k a b d x : Int} (hk : 0 ≤ k) (ea : r k.toNat = zI a) (eb : r (5 + k).toNat = zI b) (ed : r (10 + k).toNat = zI d) (ha : a = 0) (hb : b = 0) (hd : d = 0) (hx : x = moK r k.toNat) : x = moK r (k + 1).toNat := by
  subst ha; subst hb; subst hd
  rw [moK_s hk ea eb ed zR_0 zR_0 zR_0, if_neg (by simp), hx]
def knw (F : Nat → Int) (r : Nat → Int32) : Prop := F 2 = 1 → F 0 = moK r 5
/-- what holds of the reference's cells between calls -/
def rOK (F : Nat → Int) (I : Nat → Nat → Int32) : Prop := (F 2 = 0 ∨ F 2 = 1) ∧ (0 ≤ F 0 ∧ F 0 ≤ 4 ∧ 0 ≤ F 1 ∧ F 1 ≤ 4) ∧ knw F (I 0) ∧ DGok (I 2)
theorem rOK_i {F : Nat → Int} {I I2 : Nat → Nat → Int32} (h1 : F 2 = 0 ∨ F 2 = 1) (h2 : 0 ≤ F 0 ∧ F 0 ≤ 4 ∧ 0 ≤ F 1 ∧ F 1 ≤ 4) (h3 : F 0 = moK (I 0) 5) (h4 : I2 0 = I 0) (h5 : DGok (I2 2)) : rOK F I2 := ⟨h1, h2, fun _ => by rw [h4]; exact h3, h5⟩
theorem rOK_u {F : Nat → Int} {I : Nat → Nat → Int32} (h1 : F 2 = 0) (h2 : 0 ≤ F 0 ∧ F 0 ≤ 4 ∧ 0 ≤ F 1 ∧ F 1 ≤ 4) (h5 : DGok (I 2)) : rOK F I := ⟨Or.inl h1, h2, fun q => by omega, h5⟩
theorem DG_z {g : Nat → Int32} {j z : Int} (h : DGok g) (hj : 0 ≤ j ∧ j < 2) (e : g j.toNat = zI z) (h1 : -2147483648 ≤ z) (h2 : z < 2147483648) : 0 ≤ z ∧ z ≤ 12 := by
  obtain ⟨y, g1, g2, g3⟩ := h j hj.1 hj.2
  rw [g3] at e
  have := (zI_eq ⟨by omega, by omega⟩ ⟨h1, h2⟩).mp e
  omega
/-- a value of the row's polynomial at a parameter, term by term -/
def vsum (r : Nat → Int32) (w : Int) (u v : Int64) (n : Int) : Nat → Int64
  | 0 => 0
  | k + 1 => vsum r w u v n k + (r (5 * w + k).toNat).toInt64 * lpow u k * lpow v (n - k).toNat
def vOf (r : Nat → Int32) (w u v : Int) : Int64 := vsum r w (zL u) (zL v) (moK r 5) (moK r 5 + 1).toNat
theorem vsum_s {r : Nat → Int32} {w n k z : Int} {u v x a b : Int64} (hk : 0 ≤ k) (hx : x = vsum r w u v n k.toNat) (ez : r (5 * w + k).toNat = zI z) (hz : zR z) (ha : a = lpow u k.toNat) (hb : b = lpow v (n - k).toNat) : x + zL z * a * b = vsum r w u v n (k + 1).toNat := by
  obtain ⟨m, rfl⟩ := Int.eq_ofNat_of_zero_le hk
  have e1 : ((m : Int) + 1).toNat = m + 1 := by omega
  rw [e1]
  show _ = vsum r w u v n m + (r (5 * w + (m : Int)).toNat).toInt64 * lpow u m * lpow v (n - (m : Int)).toNat
  rw [hx, ha, hb, ez, zL_i2l hz]
  rfl
def cntK (r : Nat → Int32) : Nat → Int
  | 0 => 0
  | k + 1 => cntK r k + (if r k = 0 then 0 else 1)
