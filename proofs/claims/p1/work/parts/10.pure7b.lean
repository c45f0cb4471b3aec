/-! zero patterns of the reference's matrix and minors -/
def EZ (E : Nat → Int64) (X Y : Int) : Prop := ∀ r c : Int, 0 ≤ r → r < 8 → 0 ≤ c → c < 8 → (X ≤ r → E (3 * (8 * r + c) + 1).toNat = 0) ∧ (r < Y → E (3 * (8 * r + c) + 2).toNat = 0)
def bX (X p : Int) : Int := if p ≤ X then p else X
def bY (Y p : Int) : Int := if p ≤ Y then 0 else p - Y
def MZ (m : Nat → Int64) (X Y : Int) : Prop := ∀ s i j : Int, 0 ≤ s → s < 256 → 0 ≤ i → i < 7 → 0 ≤ j → j < 7 → m (49 * s + 7 * i + j).toNat ≠ 0 → i ≤ bX X (pc8 s.toNat) ∧ j ≤ bY Y (pc8 s.toNat)
theorem EZ_0 {E : Nat → Int64} (h : ∀ q : Int, 0 ≤ q → q < 192 → E q.toNat = 0) (X Y : Int) : EZ E X Y := fun r c h1 h2 h3 h4 => ⟨fun _ => h _ (by omega) (by omega), fun _ => h _ (by omega) (by omega)⟩
theorem EZ_s {E E' : Nat → Int64} {X Y r c : Int} {x0 x1 x2 : Int64} (hr : 0 ≤ r ∧ r < 8) (hc : 0 ≤ c ∧ c < 8) (h1 : X ≤ r → x1 = 0) (h2 : r < Y → x2 = 0) (h : EZ E X Y) (e : ∀ q : Int, 0 ≤ q → E' q.toNat = if q = 3 * (8 * r + c) + 2 then x2 else if q = 3 * (8 * r + c) + 1 then x1 else if q = 3 * (8 * r + c) then x0 else E q.toNat) : EZ E' X Y := by
  intro r' c' g1 g2 g3 g4
  constructor
  · intro hX
    rw [e _ (by omega), if_neg (by omega)]
    by_cases q : 3 * (8 * r' + c') + 1 = 3 * (8 * r + c) + 1
    · rw [if_pos q]; exact h1 (by omega)
    · rw [if_neg q, if_neg (by omega)]
      exact (h r' c' g1 g2 g3 g4).1 hX
  · intro hY
    rw [e _ (by omega)]
    by_cases q : 3 * (8 * r' + c') + 2 = 3 * (8 * r + c) + 2
    · rw [if_pos q]; exact h2 (by omega)
    · rw [if_neg q, if_neg (by omega), if_neg (by omega)]
      exact (h r' c' g1 g2 g3 g4).2 hY
theorem MZ_0 {m : Nat → Int64} {X Y : Int} (hX : 0 ≤ X) (h : ∀ q : Int, 0 ≤ q → q < 12544 → m q.toNat = 0) {m' : Nat → Int64} (e : m' = vp_updL m (0 : Int).toNat 1) : MZ m' X Y := by
  intro s i j h1 h2 h3 h4 h5 h6 hne
  rw [e, up_at (by omega) (by omega)] at hne
  by_cases q : 49 * s + 7 * i + j = 0
  · have e1 : s = 0 := by omega
    have e2 : i = 0 := by omega
    have e3 : j = 0 := by omega
    subst e1; subst e2; subst e3
    have : (pc8 (0 : Int).toNat : Int) = 0 := rfl
    rw [this]
    unfold bX bY
    refine ⟨?_, ?_⟩
    · rw [if_pos hX]; omega
    · split <;> omega
  · rw [if_neg q] at hne
    exact absurd (h _ (by omega) (by omega)) hne
theorem MZ_s {m m' : Nat → Int64} {X Y s0 i0 j0 q : Int} {x : Int64} (hs : 0 ≤ s0 ∧ s0 < 256) (hi : 0 ≤ i0 ∧ i0 < 7) (hj : 0 ≤ j0 ∧ j0 < 7) (bi : i0 ≤ bX X (pc8 s0.toNat)) (bj : j0 ≤ bY Y (pc8 s0.toNat)) (h : MZ m X Y) (hq : q = 49 * s0 + 7 * i0 + j0) (e : m' = vp_updL m q.toNat x) : MZ m' X Y := by
  intro s i j h1 h2 h3 h4 h5 h6 hne
  rw [e, up_at (by omega) (by omega)] at hne
  by_cases r : 49 * s + 7 * i + j = q
  · have e1 : s = s0 := by omega
    have e2 : i = i0 := by omega
    have e3 : j = j0 := by omega
    subst e1; subst e2; subst e3
    exact ⟨bi, bj⟩
  · rw [if_neg r] at hne
    exact h s i j h1 h2 h3 h4 h5 h6 hne
theorem sh1_t : ∀ n : Fin 9, zI 1 <<< (zI (n.val : Int) &&& 31) = zI ((2 ^ n.val : Nat) : Int) ∧ ∀ s : Fin 256, s.val < 2 ^ n.val → pc8 s.val ≤ n.val := by decide +kernel
theorem sh1 {n : Int} (h0 : 0 ≤ n) (h1 : n ≤ 8) : ∃ T : Int, zI 1 <<< (zI n &&& 31) = zI T ∧ 1 ≤ T ∧ T ≤ 256 ∧ ∀ s : Int, 0 ≤ s → s < T → (pc8 s.toNat : Int) ≤ n := by
  obtain ⟨k, rfl⟩ := Int.eq_ofNat_of_zero_le h0
  obtain ⟨e1, e2⟩ := sh1_t ⟨k, by omega⟩
  have hle : 2 ^ k ≤ 2 ^ 8 := Nat.pow_le_pow_right (by decide) (by omega)
  have hpos : 0 < 2 ^ k := Nat.two_pow_pos k
  refine ⟨((2 ^ k : Nat) : Int), e1, by omega, by omega, fun s g1 g2 => ?_⟩
  have := e2 ⟨s.toNat, by omega⟩ (by simp only; omega)
  simp only at this
  omega
theorem bit_t : ∀ s : Fin 256, ∀ c : Fin 8, ((zI (s.val : Int) >>> (zI (c.val : Int) &&& 31)) &&& zI 1 = zI ((s.val / 2 ^ c.val % 2 : Nat) : Int)) ∧ (s.val / 2 ^ c.val % 2 = 1 → zI (s.val : Int) ^^^ (zI 1 <<< (zI (c.val : Int) &&& 31)) = zI ((s.val - 2 ^ c.val : Nat) : Int) ∧ 2 ^ c.val ≤ s.val ∧ pc8 (s.val - 2 ^ c.val) + 1 = pc8 s.val) := by decide +kernel
theorem bitc {s c : Int} (h0 : 0 ≤ s) (h1 : s < 256) (g0 : 0 ≤ c) (g1 : c < 8) : ∃ b t : Int, (zI s >>> (zI c &&& 31)) &&& zI 1 = zI b ∧ (b = 0 ∨ b = 1) ∧ 0 ≤ t ∧ t < 256 ∧ (b = 1 → zI s ^^^ (zI 1 <<< (zI c &&& 31)) = zI t ∧ (pc8 t.toNat : Int) + 1 = pc8 s.toNat) := by
  obtain ⟨n, rfl⟩ := Int.eq_ofNat_of_zero_le h0
  obtain ⟨k, rfl⟩ := Int.eq_ofNat_of_zero_le g0
  obtain ⟨e1, e2⟩ := bit_t ⟨n, by omega⟩ ⟨k, by omega⟩
  simp only at e1 e2
  refine ⟨((n / 2 ^ k % 2 : Nat) : Int), ((n - 2 ^ k : Nat) : Int), e1, by omega, by omega, by have := Nat.sub_le n (2 ^ k); omega, fun hb => ?_⟩
  obtain ⟨e3, e4, e5⟩ := e2 (by omega)
  refine ⟨e3, ?_⟩
  show ((pc8 (n - 2 ^ k) : Nat) : Int) + 1 = (pc8 n : Nat)
  omega
/-- where a minor's term may stand when a row with a term in x (or in y) is added -/
theorem bX_m {X p i : Int} (h : i ≤ bX X p) : i ≤ bX X (p + 1) := by unfold bX at *; split at h <;> split <;> omega
theorem bX_s {X p i : Int} (hp : p < X) (h : i ≤ bX X p) : i + 1 ≤ bX X (p + 1) ∧ i ≤ p := by unfold bX at *; rw [if_pos (by omega)] at h; rw [if_pos (by omega)]; omega
theorem bY_m {Y p j : Int} (h : j ≤ bY Y p) : j ≤ bY Y (p + 1) := by unfold bY at *; split at h <;> split <;> omega
theorem bY_s {Y p j : Int} (hp : Y ≤ p) (h : j ≤ bY Y p) : j + 1 ≤ bY Y (p + 1) ∧ j ≤ p - Y := by unfold bY at *; rw [if_neg (by omega)]; split at h <;> omega
theorem z_fill {f f' : Nat → Int64} {k : Int} (hk : 0 ≤ k) (e : f' = vp_updL f k.toNat 0) (hz : ∀ q : Int, 0 ≤ q → q < k → f q.toNat = 0) : ∀ q : Int, 0 ≤ q → q < k + 1 → f' q.toNat = 0 := by
  intro q h1 h2
  rw [e, up_at hk h1]
  by_cases r : q = k
  · rw [if_pos r]
  · rw [if_neg r]; exact hz q h1 (by omega)
theorem EZ_x {E : Nat → Int64} {X Y r c : Int} (h : EZ E X Y) (hne : ¬ E (3 * (8 * r + c) + 1).toNat = 0) (hr : 0 ≤ r ∧ r < 8) (hc : 0 ≤ c ∧ c < 8) : r < X := by
  rcases Int.lt_or_le r X with q | q
  · exact q
  · exact absurd ((h r c hr.1 hr.2 hc.1 hc.2).1 q) hne
theorem EZ_y {E : Nat → Int64} {X Y r c : Int} (h : EZ E X Y) (hne : ¬ E (3 * (8 * r + c) + 2).toNat = 0) (hr : 0 ≤ r ∧ r < 8) (hc : 0 ≤ c ∧ c < 8) : Y ≤ r := by
  rcases Int.lt_or_le r Y with q | q
  · exact absurd ((h r c hr.1 hr.2 hc.1 hc.2).2 q) hne
  · exact q
