/-! how great the common divisor of two polynomials of the box can be -/
theorem rs_zero {g : Nat → Int} {X Y : Nat → Int} (hX : ∀ i, X i = 0) (hY : ∀ i, Y i = 0) (h : RS X Y g) : ∀ i, g i = 0 := by
  refine h (fun p => ∀ i, p i = 0) ⟨fun a b ha hb i => by show a i + b i = 0; rw [ha i, hb i]; rfl, fun c a ha i => by show c * a i = 0; rw [ha i, Int.mul_zero], fun a ha i => by cases i with | zero => rfl | succ i => exact ha i, fun n a hn ha i => ?_⟩ hX hY
  exact (Int.mul_eq_zero.mp (ha i)).resolve_left hn
theorem ms_self (g : Nat → Int) : MS g g := ⟨1, by decide, [1], fun i => by
    cases i with
    | zero => rw [conv_0]
    | succ i => rw [conv_s]; show _ = _ + 0; omega⟩
theorem MS.deg {X g : Nat → Int} {d e : Nat} (h : MS X g) (tX : top X e) (tg : top g d) : e ≤ d := Nat.le_of_not_lt fun q => by
  obtain ⟨n, hn, c, hc⟩ := h
  have h1 := convZ tX c (fun j hj => by rw [← hc j, tg.2 j (by omega), Int.mul_zero]) d
  rw [← hc d] at h1
  exact tg.1 ((Int.mul_eq_zero.mp h1).resolve_left hn)
/-- both lie in the multiples of one: that one's degree is no greater than the divisor's -/
theorem RS.deg {X Y Z g : Nat → Int} {d e : Nat} (h : RS X Y g) (hX : MS Z X) (hY : MS Z Y) (tZ : top Z e) (tg : top g d) : e ≤ d := MS.deg (h _ (MS.cl Z) hX hY) tZ tg
theorem quo {X g : Nat → Int} (pr : Pr g) (h : RS g p0 X) : ∃ c : List Int, ∀ i, X i = conv c g i := by
  obtain ⟨n, hn, c, hc⟩ := RS.ms h
  exact gauss pr _ n c X (Nat.le_refl _) hn hc
theorem bx_mul {g X : Nat → Int} {k : Int} {B : Nat} (hk : k ≠ 0) (h : ∀ i, X i = k * g i) (hX : bx B X) : bx B g := fun i => fac_le (by rw [← h i]; exact hX i) hk
theorem gb4 {X g : Nat → Int} {c : List Int} {B : Nat} (hX : bx B X) (sX : ∀ i, 4 < i → X i = 0) (tg : top g 4) (h : ∀ i, X i = conv c g i) (hn : ¬ ∀ i, X i = 0) : bx B g := by
  obtain ⟨k, hk⟩ := convH tg (c := c) (fun j hj => by rw [← h j]; exact sX j hj)
  refine bx_mul (k := k) (fun q => hn fun i => ?_) (fun i => (h i).trans (hk i)) hX
  rw [h i, hk i, q, Int.zero_mul]
theorem gb0 {g : Nat → Int} (pr : Pr g) (tg : top g 0) : bx 1 g := by
  intro i
  cases i with
  | zero =>
    have h1 := pr (g 0).natAbs (fun i => by
      cases i with
      | zero => exact Int.natAbs_dvd.mpr (Int.dvd_refl _)
      | succ i => rw [tg.2 (i + 1) (by omega)]; exact Int.dvd_zero _)
    omega
  | succ i => rw [tg.2 (i + 1) (by omega)]; decide
theorem gb1 {X g : Nat → Int} {c : List Int} {B : Nat} (hX : bx B X) (tg : top g 1) (h : ∀ i, X i = conv c g i) (hn : ¬ ∀ i, X i = 0) : bx B g := by
  intro i
  match i with
  | 0 => exact low_le hX (fun j hj => by omega) h hn
  | 1 => exact top_le hX tg h hn
  | i + 2 => rw [tg.2 (i + 2) (by omega)]; exact Nat.zero_le _
theorem gb2 {X g : Nat → Int} {c : List Int} (hX : bx 7 X) (sX : ∀ i, 4 < i → X i = 0) (tg : top g 2) (h : ∀ i, X i = conv c g i) (hn : ¬ ∀ i, X i = 0) : bx 105 g := by
  have hu := top_le hX tg h hn
  have hw := low_le (l := 0) hX (fun j hj => by omega) h hn
  obtain ⟨h0, c1, e1, z1⟩ := (conv_peel tg (e := 4) (by omega) (c := c) (fun j hj => by rw [← h j]; exact sX j hj) (by omega)).resolve_left (by omega)
  obtain ⟨h1, c2, e2, z2⟩ := (conv_peel tg (e := 3) (by omega) (c := c1) (fun j hj => z1 j (by omega)) (by omega)).resolve_left (by omega)
  obtain ⟨h2, e3⟩ := convH tg (c := c2) (fun j hj => z2 j (by omega))
  have X0 : X 0 = h0 * g 0 := by rw [h 0, e1 0]; show _ + 0 = _; omega
  have X1 : X 1 = h0 * g 1 + h1 * g 0 := by
    rw [h 1, e1 1]
    show h0 * g 1 + conv c1 g 0 = _
    rw [e2 0]
    show _ + (_ + 0) = _
    omega
  have X2 : X 2 = h0 * g 2 + (h1 * g 1 + h2 * g 0) := by
    rw [h 2, e1 2]
    show h0 * g 2 + conv c1 g 1 = _
    rw [e2 1]
    show _ + (_ + conv c2 g 0) = _
    rw [e3 0]
  have X3 : X 3 = h1 * g 2 + h2 * g 1 := by
    rw [h 3, e1 3, tg.2 3 (by omega), Int.mul_zero, Int.zero_add]
    show conv c1 g 2 = _
    rw [e2 2]
    show _ + conv c2 g 1 = _
    rw [e3 1]
  have X4 : X 4 = h2 * g 2 := by
    rw [h 4, e1 4, tg.2 4 (by omega), Int.mul_zero, Int.zero_add]
    show conv c1 g 3 = _
    rw [e2 3, tg.2 3 (by omega), Int.mul_zero, Int.zero_add]
    show conv c2 g 2 = _
    rw [e3 2]
  have hh2 : h2.natAbs ≤ 7 := fac_le (x := g 2) (by rw [Int.mul_comm, ← X4]; exact hX 4) tg.1
  have hm : (g 1).natAbs ≤ 105 := by
    by_cases m0 : g 1 = 0
    · rw [m0]; decide
    · by_cases k1 : h1 = 0
      · by_cases k2 : h2 = 0
        · have k0 : h0 ≠ 0 := fun q => hn fun i => by
            rw [h i, e1 i, q, Int.zero_mul, Int.zero_add]
            cases i with
            | zero => rfl
            | succ i =>
              show conv c1 g i = 0
              rw [e2 i, k1, Int.zero_mul, Int.zero_add]
              cases i with
              | zero => rfl
              | succ i => show conv c2 g i = 0; rw [e3 i, k2, Int.zero_mul]
          have := fac_le (x := h0) (y := g 1) (B := 7) (by rw [k1, Int.zero_mul, Int.add_zero] at X1; rw [← X1]; exact hX 1) k0
          omega
        · have := fac_le (x := h2) (y := g 1) (B := 7) (by rw [k1, Int.zero_mul, Int.zero_add] at X3; rw [← X3]; exact hX 3) k2
          omega
      · have hh0 : h0.natAbs ≤ 7 := by
          by_cases w0 : g 0 = 0
          · exact fac_le (x := g 1) (by rw [w0, Int.mul_zero, Int.add_zero] at X1; rw [Int.mul_comm, ← X1]; exact hX 1) m0
          · exact fac_le (x := g 0) (by rw [Int.mul_comm, ← X0]; exact hX 0) w0
        have b1 : (h0 * g 2).natAbs ≤ 49 := by rw [Int.natAbs_mul]; exact Nat.mul_le_mul hh0 hu
        have b2 : (h2 * g 0).natAbs ≤ 49 := by rw [Int.natAbs_mul]; exact Nat.mul_le_mul hh2 hw
        have b3 := hX 2
        have b4 : (h1 * g 1).natAbs ≤ 105 := by omega
        exact fac_le b4 k1
  intro i
  match i with
  | 0 => omega
  | 1 => exact hm
  | 2 => omega
  | i + 3 => rw [tg.2 (i + 3) (by omega)]; decide
theorem gb3a {a b g1 g2 g3 : Int} (ha : a ≠ 0) (h4 : (a * g3).natAbs ≤ 7) (h3 : (a * g2 + b * g3).natAbs ≤ 7) (h2 : (a * g1 + b * g2).natAbs ≤ 7) (hg : 8 ≤ g2.natAbs) (hle : g1.natAbs ≤ g2.natAbs) : a.natAbs = 1 ∧ b.natAbs ≤ 1 := by
  have q1 : (b * g2).natAbs ≤ 7 + (a * g1).natAbs := by omega
  have q2 : (a * g2).natAbs ≤ 7 + (b * g3).natAbs := by omega
  rw [Int.natAbs_mul, Int.natAbs_mul] at q1 q2
  rw [Int.natAbs_mul] at h4
  have hA := Int.natAbs_pos.mpr ha
  generalize a.natAbs = A at *
  generalize b.natAbs = B at *
  generalize g1.natAbs = G1 at *
  generalize g2.natAbs = G2 at *
  generalize g3.natAbs = G3 at *
  have hBA : B ≤ A := Nat.le_of_not_lt fun q => by
    have r1 : (A + 1) * G2 ≤ B * G2 := Nat.mul_le_mul_right _ q
    have r2 : A * G1 ≤ A * G2 := Nat.mul_le_mul_left _ hle
    rw [Nat.add_mul] at r1
    omega
  have r3 : B * G3 ≤ A * G3 := Nat.mul_le_mul_right _ hBA
  have r4 : A * 8 ≤ A * G2 := Nat.mul_le_mul_left _ hg
  omega
theorem gb3b {a b a1 b1 g1 g2 g3 : Int} (ha : a ≠ 0) (hb : b ≠ 0) (ha1 : a1 ≠ 0) (hb1 : b1 ≠ 0) (hD : a * b1 ≠ a1 * b) (h4 : (a * g3).natAbs ≤ 7) (h3 : (a * g2 + b * g3).natAbs ≤ 7) (h2 : (a * g1 + b * g2).natAbs ≤ 7) (k4 : (a1 * g3).natAbs ≤ 7) (k3 : (a1 * g2 + b1 * g3).natAbs ≤ 7) (k2 : (a1 * g1 + b1 * g2).natAbs ≤ 7) (hle : g1.natAbs ≤ g2.natAbs) : g2.natAbs ≤ 7 := Nat.le_of_not_lt fun q => by
  obtain ⟨r1, r2⟩ := gb3a ha h4 h3 h2 q hle
  obtain ⟨r3, r4⟩ := gb3a ha1 k4 k3 k2 q hle
  have e1 : a = 1 ∨ a = -1 := by clear h4 h3 h2 k4 k3 k2 hle q r2 r3 r4; omega
  have e2 : b = 1 ∨ b = -1 := by clear h4 h3 h2 k4 k3 k2 hle q r1 r3 r4; omega
  have e3 : a1 = 1 ∨ a1 = -1 := by clear h4 h3 h2 k4 k3 k2 hle q r1 r2 r4; omega
  have e4 : b1 = 1 ∨ b1 = -1 := by clear h4 h3 h2 k4 k3 k2 hle q r1 r2 r3; omega
  have w3 : -7 ≤ a * g2 + b * g3 ∧ a * g2 + b * g3 ≤ 7 := by clear h4 h2 k4 k3 k2 hle q r1 r2 r3 r4; omega
  have x3 : -7 ≤ a1 * g2 + b1 * g3 ∧ a1 * g2 + b1 * g3 ≤ 7 := by clear h4 h3 h2 k4 k2 hle q r1 r2 r3 r4; omega
  have w2 : 8 ≤ g2 ∨ g2 ≤ -8 := by clear h4 h3 h2 k4 k3 k2 hle r1 r2 r3 r4 w3 x3; omega
  clear h4 h3 h2 k4 k3 k2 hle q r1 r2 r3 r4
  rcases e1 with rfl | rfl <;> rcases e2 with rfl | rfl <;> rcases e3 with rfl | rfl <;> rcases e4 with rfl | rfl <;> first | exact absurd rfl hD | omega
theorem gb3 {X Y g : Nat → Int} (pr : Pr g) (hX : bx 7 X) (hY : bx 7 Y) (sX : ∀ i, 4 < i → X i = 0) (sY : ∀ i, 4 < i → Y i = 0) (tg : top g 3) (he : EQ2 X Y g p0) : bx 7 g := by
  obtain ⟨c, hc⟩ := quo pr he.2.2.1
  obtain ⟨d, hd⟩ := quo pr he.2.2.2
  obtain ⟨b, c1, e1, z1⟩ := (conv_peel tg (e := 4) (by omega) (c := c) (fun j hj => by rw [← hc j]; exact sX j hj) (by omega)).resolve_left (by omega)
  obtain ⟨b1, d1, f1, y1⟩ := (conv_peel tg (e := 4) (by omega) (c := d) (fun j hj => by rw [← hd j]; exact sY j hj) (by omega)).resolve_left (by omega)
  obtain ⟨a, e2⟩ := convH tg (c := c1) (fun j hj => z1 j (by omega))
  obtain ⟨a1, f2⟩ := convH tg (c := d1) (fun j hj => y1 j (by omega))
  have X0 : X 0 = b * g 0 := by rw [hc 0, e1 0]; show _ + 0 = _; omega
  have Xs : ∀ i, X (i + 1) = b * g (i + 1) + a * g i := fun i => by
    rw [hc (i + 1), e1 (i + 1)]
    show _ + conv c1 g i = _
    rw [e2 i]
  have Y0 : Y 0 = b1 * g 0 := by rw [hd 0, f1 0]; show _ + 0 = _; omega
  have Ys : ∀ i, Y (i + 1) = b1 * g (i + 1) + a1 * g i := fun i => by
    rw [hd (i + 1), f1 (i + 1)]
    show _ + conv d1 g i = _
    rw [f2 i]
  -- a product with a single number
  have one : ∀ (Z : Nat → Int) (u v : Int), bx 7 Z → Z 0 = v * g 0 → (∀ i, Z (i + 1) = v * g (i + 1) + u * g i) → (u = 0 ∨ v = 0) → ¬ (u = 0 ∧ v = 0) → bx 7 g := fun Z u v hZ z0 zs h1 h2 => by
    rcases h1 with h1 | h1
    · have hv : v ≠ 0 := fun q => h2 ⟨h1, q⟩
      refine bx_mul (X := Z) hv (fun i => ?_) hZ
      cases i with
      | zero => exact z0
      | succ i => rw [zs i, h1, Int.zero_mul, Int.add_zero]
    · have hu : u ≠ 0 := fun q => h2 ⟨q, h1⟩
      intro i
      refine fac_le (x := u) ?_ hu
      have := hZ (i + 1)
      rw [zs i, h1, Int.zero_mul, Int.zero_add] at this
      exact this
  have four : ∀ (Z : Nat → Int) (u v : Int), (∀ i, Z (i + 1) = v * g (i + 1) + u * g i) → u ≠ 0 → top Z 4 := fun Z u v zs hu => by
    refine ⟨?_, fun i hi => ?_⟩
    · rw [show (4 : Nat) = 3 + 1 from rfl, zs 3, tg.2 (3 + 1) (by omega), Int.mul_zero, Int.zero_add]
      exact Int.mul_ne_zero hu tg.1
    · obtain ⟨k, rfl⟩ : ∃ k, i = k + 1 := ⟨i - 1, by omega⟩
      rw [zs k, tg.2 (k + 1) (by omega), tg.2 k (by omega), Int.mul_zero, Int.mul_zero, Int.zero_add]
  by_cases hXz : a = 0 ∧ b = 0
  · have hX0 : ∀ i, X i = 0 := fun i => by
      cases i with
      | zero => rw [X0, hXz.2, Int.zero_mul]
      | succ i => rw [Xs i, hXz.1, hXz.2, Int.zero_mul, Int.zero_mul, Int.zero_add]
    by_cases hYz : a1 = 0 ∧ b1 = 0
    · exfalso
      exact tg.1 (rs_zero hX0 (fun i => by
        cases i with
        | zero => rw [Y0, hYz.2, Int.zero_mul]
        | succ i => rw [Ys i, hYz.1, hYz.2, Int.zero_mul, Int.zero_mul, Int.zero_add]) he.1 3)
    · by_cases q : a1 = 0 ∨ b1 = 0
      · exact one Y a1 b1 hY Y0 Ys q hYz
      · exfalso
        have t4 := four Y a1 b1 Ys (fun z => q (Or.inl z))
        have := RS.deg he.1 (Z := Y) ⟨1, by decide, [], fun i => by rw [hX0 i]; rfl⟩ (ms_self Y) t4 tg
        omega
  · by_cases q : a = 0 ∨ b = 0
    · exact one X a b hX X0 Xs q hXz
    · have ha : a ≠ 0 := fun z => q (Or.inl z)
      have hb : b ≠ 0 := fun z => q (Or.inr z)
      have t4 := four X a b Xs ha
      by_cases hD : a * b1 = a1 * b
      · exfalso
        have hYX : MS X Y := ⟨b, hb, [b1], fun i => by
          cases i with
          | zero => rw [conv_0, Y0, X0, Int.mul_left_comm]
          | succ i =>
            rw [conv_s, Ys i, Xs i]
            show _ = _ + 0
            generalize g (i + 1) = x
            generalize g i = y
            grind⟩
        have := RS.deg he.1 (Z := X) (ms_self X) hYX t4 tg
        omega
      · by_cases q1 : a1 = 0 ∨ b1 = 0
        · by_cases hYz : a1 = 0 ∧ b1 = 0
          · exfalso
            exact hD (by rw [hYz.1, hYz.2, Int.mul_zero, Int.zero_mul])
          · exact one Y a1 b1 hY Y0 Ys q1 hYz
        · have ha1 : a1 ≠ 0 := fun z => q1 (Or.inl z)
          have hb1 : b1 ≠ 0 := fun z => q1 (Or.inr z)
          have x4 : (a * g 3).natAbs ≤ 7 := by have := hX (3 + 1); rw [Xs 3, tg.2 (3 + 1) (by omega), Int.mul_zero, Int.zero_add] at this; exact this
          have x3 : (a * g 2 + b * g 3).natAbs ≤ 7 := by have := hX (2 + 1); rw [Xs 2, Int.add_comm] at this; exact this
          have x2 : (a * g 1 + b * g 2).natAbs ≤ 7 := by have := hX (1 + 1); rw [Xs 1, Int.add_comm] at this; exact this
          have x1 : (a * g 0 + b * g 1).natAbs ≤ 7 := by have := hX (0 + 1); rw [Xs 0, Int.add_comm] at this; exact this
          have x0 : (b * g 0).natAbs ≤ 7 := by have := hX 0; rw [X0] at this; exact this
          have y4 : (a1 * g 3).natAbs ≤ 7 := by have := hY (3 + 1); rw [Ys 3, tg.2 (3 + 1) (by omega), Int.mul_zero, Int.zero_add] at this; exact this
          have y3 : (a1 * g 2 + b1 * g 3).natAbs ≤ 7 := by have := hY (2 + 1); rw [Ys 2, Int.add_comm] at this; exact this
          have y2 : (a1 * g 1 + b1 * g 2).natAbs ≤ 7 := by have := hY (1 + 1); rw [Ys 1, Int.add_comm] at this; exact this
          have y1' : (a1 * g 0 + b1 * g 1).natAbs ≤ 7 := by have := hY (0 + 1); rw [Ys 0, Int.add_comm] at this; exact this
          have y0 : (b1 * g 0).natAbs ≤ 7 := by have := hY 0; rw [Y0] at this; exact this
          have g3 : (g 3).natAbs ≤ 7 := fac_le x4 ha
          have g0 : (g 0).natAbs ≤ 7 := fac_le x0 hb
          have both : (g 1).natAbs ≤ 7 ∧ (g 2).natAbs ≤ 7 := by
            by_cases hle : (g 1).natAbs ≤ (g 2).natAbs
            · have := gb3b ha hb ha1 hb1 hD x4 x3 x2 y4 y3 y2 hle
              omega
            · have := gb3b (g1 := g 2) (g2 := g 1) (g3 := g 0) hb ha hb1 ha1 (fun z => hD (by rw [Int.mul_comm a b1, Int.mul_comm a1 b]; exact z.symm)) x0 (by rw [Int.add_comm]; exact x1) (by rw [Int.add_comm]; exact x2) y0 (by rw [Int.add_comm]; exact y1') (by rw [Int.add_comm]; exact y2) (by omega)
              omega
          intro i
          match i with
          | 0 => exact g0
          | 1 => exact both.1
          | 2 => exact both.2
          | 3 => exact g3
          | i + 4 => rw [tg.2 (i + 4) (by omega)]; decide
