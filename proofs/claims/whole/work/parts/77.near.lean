theorem m3_mod {n : Int} {X Y W : Nat → Int} {l : Nat} {x1 x2 x3 : Int} (h : cmb n X Y W l x1 x2 x3) (x y w : Int) (j : Nat) : n ∣ m3 X Y W x y w j l - (x1 * m3 X Y W x y w j 0 + x2 * m3 X Y W x y w j 1 + x3 * m3 X Y W x y w j 2) := by
  obtain ⟨⟨r1, h1⟩, ⟨r2, h2⟩, ⟨r3, h3⟩⟩ := h
  refine ⟨x * (Y j * r3 - W j * r2) - y * (X j * r3 - W j * r1) + w * (X j * r2 - Y j * r1), ?_⟩
  unfold m3
  generalize X l = xl at *
  generalize Y l = yl at *
  generalize W l = wl at *
  grind
theorem det4_dvd {D E a0 a1 a2 a3 b0 b1 b2 b3 c0 c1 c2 c3 d0 d1 d2 d3 : Int} (ha0 : D ∣ a0) (ha1 : D ∣ a1) (ha2 : D ∣ a2) (ha3 : D ∣ a3) (hb0 : D ∣ b0) (hb1 : D ∣ b1) (hb2 : D ∣ b2) (hb3 : D ∣ b3) (hc0 : E ∣ c0) (hc1 : E ∣ c1) (hc2 : E ∣ c2) (hc3 : E ∣ c3) (hd0 : E ∣ d0) (hd1 : E ∣ d1) (hd2 : E ∣ d2) (hd3 : E ∣ d3) : D * D * (E * E) ∣ det4 a0 a1 a2 a3 b0 b1 b2 b3 c0 c1 c2 c3 d0 d1 d2 d3 := by
  obtain ⟨A0, rfl⟩ := ha0
  obtain ⟨A1, rfl⟩ := ha1
  obtain ⟨A2, rfl⟩ := ha2
  obtain ⟨A3, rfl⟩ := ha3
  obtain ⟨B0, rfl⟩ := hb0
  obtain ⟨B1, rfl⟩ := hb1
  obtain ⟨B2, rfl⟩ := hb2
  obtain ⟨B3, rfl⟩ := hb3
  obtain ⟨C0, rfl⟩ := hc0
  obtain ⟨C1, rfl⟩ := hc1
  obtain ⟨C2, rfl⟩ := hc2
  obtain ⟨C3, rfl⟩ := hc3
  obtain ⟨D0, rfl⟩ := hd0
  obtain ⟨D1, rfl⟩ := hd1
  obtain ⟨D2, rfl⟩ := hd2
  obtain ⟨D3, rfl⟩ := hd3
  refine ⟨det4 A0 A1 A2 A3 B0 B1 B2 B3 C0 C1 C2 C3 D0 D1 D2 D3, ?_⟩
  unfold det4
  grind
theorem dS_row (x3 y3 a b c d e f g h i j : Int) : dS a b c d e f g h i j = det4 a b c d b e f g (c - x3 * b + (x3 * x3 - y3) * a) (f - x3 * e + (x3 * x3 - y3) * b) (h - x3 * f + (x3 * x3 - y3) * c) (i - x3 * g + (x3 * x3 - y3) * d) (d - y3 * b + x3 * y3 * a) (g - y3 * e + x3 * y3 * b) (i - y3 * f + x3 * y3 * c) (j - y3 * g + x3 * y3 * d) := by
  unfold dS det4
  grind
theorem near_F {X Y W : Nat → Int} {κ : Nat} {x1 x2 x3 y1 y2 y3 : Int} (h3 : cmb (2 ^ 64) X Y W 3 x1 x2 x3) (h4 : cmb (2 ^ 64) X Y W 4 y1 y2 y3) (hv : (2 ^ 5 : Int) ∣ vv x2 x3 y3) (hg : (2 ^ 5 : Int) ∣ y2 + x3 * y3) (h5 : (2 ^ 5 : Int) ∣ a5 x1 x2 x3 y2 y3) (h6 : (2 ^ 5 : Int) ∣ a6 x1 x2 x3 y1 y2 y3) (x y w : Int) (h01 : (2 ^ κ : Int) ∣ m3 X Y W x y w 0 1) (h02 : (2 ^ κ : Int) ∣ m3 X Y W x y w 0 2) (h12 : (2 ^ κ : Int) ∣ m3 X Y W x y w 1 2) (hκ : κ ≤ 50) : (2 ^ (4 * κ + 10) : Int) ∣ FF X Y W x y w := by
  have g03 := m3_mod h3 x y w 0
  have g13 := m3_mod h3 x y w 1
  have g23 := m3_mod h3 x y w 2
  have g04 := m3_mod h4 x y w 0
  have g14 := m3_mod h4 x y w 1
  have g24 := m3_mod h4 x y w 2
  have g34 := m3_mod h4 x y w 3
  rw [m3_anti X Y W x y w 3 0, m3_anti X Y W x y w 3 1, m3_anti X Y W x y w 3 2] at g34
  rw [m3_self] at g03 g04 g13 g14 g23 g24
  rw [m3_anti X Y W x y w 1 0] at g13 g14
  rw [m3_anti X Y W x y w 2 0, m3_anti X Y W x y w 2 1] at g23 g24
  unfold FF
  generalize m3 X Y W x y w 0 1 = m01 at *
  generalize m3 X Y W x y w 0 2 = m02 at *
  generalize m3 X Y W x y w 0 3 = m03 at *
  generalize m3 X Y W x y w 0 4 = m04 at *
  generalize m3 X Y W x y w 1 2 = m12 at *
  generalize m3 X Y W x y w 1 3 = m13 at *
  generalize m3 X Y W x y w 1 4 = m14 at *
  generalize m3 X Y W x y w 2 3 = m23 at *
  generalize m3 X Y W x y w 2 4 = m24 at *
  generalize m3 X Y W x y w 3 4 = m34 at *
  have k64 : ∀ {z : Int}, (2 ^ 64 : Int) ∣ z → (2 ^ (κ + 5) : Int) ∣ z := fun h => pw_le_dvd (by omega) h
  have kk : ∀ {z : Int}, (2 ^ (κ + 5) : Int) ∣ z → (2 ^ κ : Int) ∣ z := fun h => pw_le_dvd (by omega) h
  have g03 := k64 g03
  have g13 := k64 g13
  have g23 := k64 g23
  have g04 := k64 g04
  have g14 := k64 g14
  have g24 := k64 g24
  have g34 := k64 g34
  clear h3 h4 k64
  obtain ⟨q03, e03⟩ : ∃ q, q = m03 - (x1 * 0 + x2 * m01 + x3 * m02) := ⟨_, rfl⟩
  obtain ⟨q13, e13⟩ : ∃ q, q = m13 - (x1 * -m01 + x2 * 0 + x3 * m12) := ⟨_, rfl⟩
  obtain ⟨q23, e23⟩ : ∃ q, q = m23 - (x1 * -m02 + x2 * -m12 + x3 * 0) := ⟨_, rfl⟩
  obtain ⟨q04, e04⟩ : ∃ q, q = m04 - (y1 * 0 + y2 * m01 + y3 * m02) := ⟨_, rfl⟩
  obtain ⟨q14, e14⟩ : ∃ q, q = m14 - (y1 * -m01 + y2 * 0 + y3 * m12) := ⟨_, rfl⟩
  obtain ⟨q24, e24⟩ : ∃ q, q = m24 - (y1 * -m02 + y2 * -m12 + y3 * 0) := ⟨_, rfl⟩
  obtain ⟨q34, e34⟩ : ∃ q, q = m34 - (y1 * -m03 + y2 * -m13 + y3 * -m23) := ⟨_, rfl⟩
  rw [← e03] at g03
  rw [← e13] at g13
  rw [← e23] at g23
  rw [← e04] at g04
  rw [← e14] at g14
  rw [← e24] at g24
  rw [← e34] at g34
  have w03 : m03 = q03 + x2 * m01 + x3 * m02 := by omega
  have w13 : m13 = q13 - x1 * m01 + x3 * m12 := by rw [e13]; grind
  have w23 : m23 = q23 - x1 * m02 - x2 * m12 := by rw [e23]; grind
  have w04 : m04 = q04 + y2 * m01 + y3 * m02 := by omega
  have w14 : m14 = q14 - y1 * m01 + y3 * m12 := by rw [e14]; grind
  have w24 : m24 = q24 - y1 * m02 - y2 * m12 := by rw [e24]; grind
  have w34 : m34 = q34 - y1 * m03 - y2 * m13 - y3 * m23 := by rw [e34]; grind
  clear e03 e13 e23 e04 e14 e24 e34
  have d03 : (2 ^ κ : Int) ∣ m03 := by rw [w03]; exact Int.dvd_add (Int.dvd_add (kk g03) (dl _ h01)) (dl _ h02)
  have d13 : (2 ^ κ : Int) ∣ m13 := by rw [w13]; exact Int.dvd_add (Int.dvd_sub (kk g13) (dl _ h01)) (dl _ h12)
  have d04 : (2 ^ κ : Int) ∣ m04 := by rw [w04]; exact Int.dvd_add (Int.dvd_add (kk g04) (dl _ h01)) (dl _ h02)
  have d14 : (2 ^ κ : Int) ∣ m14 := by rw [w14]; exact Int.dvd_add (Int.dvd_sub (kk g14) (dl _ h01)) (dl _ h12)
  obtain ⟨G, eG⟩ : ∃ G, G = y2 + x3 * y3 := ⟨_, rfl⟩
  obtain ⟨V, eV⟩ : ∃ V, V = vv x2 x3 y3 := ⟨_, rfl⟩
  obtain ⟨F5, e5⟩ : ∃ F, F = a5 x1 x2 x3 y2 y3 := ⟨_, rfl⟩
  obtain ⟨F6, e6⟩ : ∃ F, F = a6 x1 x2 x3 y1 y2 y3 := ⟨_, rfl⟩
  rw [← eG] at hg
  rw [← eV] at hv
  rw [← e5] at h5
  rw [← e6] at h6
  have t1 : (2 ^ 5 : Int) ∣ 2 * x3 * V - G - F5 := Int.dvd_sub (Int.dvd_sub (dl _ hv) hg) h5
  have t2 : (2 ^ 5 : Int) ∣ 3 * x3 * V - 2 * G - F5 := Int.dvd_sub (Int.dvd_sub (dl _ hv) (dl _ hg)) h5
  have t3 : (2 ^ 5 : Int) ∣ 2 * x3 * F5 - F6 + 2 * x3 * G - (x2 + 3 * x3 * x3 - 2 * y3) * V := Int.dvd_sub (Int.dvd_add (Int.dvd_sub (dl _ h5) h6) (dl _ hg)) (dl _ hv)
  have t4 : (2 ^ 5 : Int) ∣ x3 * F5 - F6 + x3 * G - (V - 2 * y3) * V := Int.dvd_sub (Int.dvd_add (Int.dvd_sub (dl _ h5) h6) (dl _ hg)) (dl _ hv)
  have mm : ∀ {c z : Int}, (2 ^ 5 : Int) ∣ c → (2 ^ κ : Int) ∣ z → (2 ^ (κ + 5) : Int) ∣ c * z := fun hc hz => by
    rw [Int.mul_comm]
    exact dvd_mul2 hz hc
  have c4e : y1 = -(x3 * F5 - F6 + x3 * G - (V - 2 * y3) * V) + x3 * x3 * y3 - y3 * y3 := by
    rw [e5, e6, eG, eV]
    unfold a5 a6 vv
    grind
  have x1e : x1 = F5 + 2 * (G - x3 * y3) + 3 * x3 * y3 - 3 * x2 * x3 - 2 * x3 * x3 * x3 := by
    rw [e5, eG]
    unfold a5
    grind
  have y2e : y2 = G - x3 * y3 := by omega
  have x2e : x2 = V - x3 * x3 + y3 := by rw [eV]; unfold vv; omega
  have t5 := t4
  obtain ⟨C4, eC⟩ : ∃ C, C = x3 * F5 - F6 + x3 * G - (V - 2 * y3) * V := ⟨_, rfl⟩
  rw [← eC] at t4 c4e
  have r3e : 2 * x3 * F5 - F6 + 2 * x3 * G - (x2 + 3 * x3 * x3 - 2 * y3) * V = C4 + x3 * F5 + x3 * G - (x2 + 3 * x3 * x3 - V) * V := by rw [eC]; grind
  rw [r3e] at t3
  clear r3e t5 eC eV e5 e6 eG h6
  have pr : (2 ^ (4 * κ + 10) : Int) = 2 ^ κ * 2 ^ κ * (2 ^ (κ + 5) * 2 ^ (κ + 5)) := by
    rw [← Int.pow_add, ← Int.pow_add, ← Int.pow_add]
    congr 1
    omega
  rw [pr, dS_row x3 y3]
  refine det4_dvd h01 h02 d03 d04 h02 (Int.dvd_add d03 h12) (Int.dvd_add d04 d13) d14 ?_ ?_ ?_ ?_ ?_ ?_ ?_ ?_
  · have q : m03 - x3 * m02 + (x3 * x3 - y3) * m01 = q03 + V * m01 := by rw [w03, x2e]; grind
    rw [q]
    exact Int.dvd_add g03 (mm hv h01)
  · have q : m04 + m13 - x3 * (m03 + m12) + (x3 * x3 - y3) * m02 = q04 + q13 - x3 * q03 + (2 * x3 * V - G - F5) * m01 := by rw [w03, w04, w13, x1e, y2e, x2e]; grind
    rw [q]
    exact Int.dvd_add (Int.dvd_sub (Int.dvd_add g04 g13) (dl _ g03)) (mm t1 h01)
  · have q : m14 + m23 - x3 * (m04 + m13) + (x3 * x3 - y3) * m03 = q14 + q23 - x3 * q04 - x3 * q13 + (x3 * x3 - y3) * q03 - V * m12 + (3 * x3 * V - 2 * G - F5) * m02 + (C4 + x3 * F5 + x3 * G - (x2 + 3 * x3 * x3 - V) * V) * m01 := by rw [w03, w04, w13, w14, w23, c4e, x1e, y2e, x2e]; grind
    rw [q]
    exact Int.dvd_add (Int.dvd_add (Int.dvd_sub (Int.dvd_add (Int.dvd_sub (Int.dvd_sub (Int.dvd_add g14 g23) (dl _ g04)) (dl _ g13)) (dl _ g03)) (mm hv h12)) (mm t2 h02)) (mm t3 h01)
  · have q : m24 - x3 * m14 + (x3 * x3 - y3) * m04 = q24 - x3 * q14 + (x3 * x3 - y3) * q04 - G * m12 + C4 * m02 + ((x3 * x3 - y3) * G - x3 * C4) * m01 := by rw [w04, w14, w24, c4e, y2e]; grind
    rw [q]
    exact Int.dvd_add (Int.dvd_add (Int.dvd_sub (Int.dvd_add (Int.dvd_sub g24 (dl _ g14)) (dl _ g04)) (mm hg h12)) (mm t4 h02)) (mm (Int.dvd_sub (dl _ hg) (dl _ t4)) h01)
  · have q : m04 - y3 * m02 + x3 * y3 * m01 = q04 + G * m01 := by rw [w04, y2e]; grind
    rw [q]
    exact Int.dvd_add g04 (mm hg h01)
  · have q : m14 - y3 * (m03 + m12) + x3 * y3 * m02 = q14 - y3 * q03 + (C4 - y3 * V) * m01 := by rw [w03, w14, c4e, x2e]; grind
    rw [q]
    exact Int.dvd_add (Int.dvd_sub g14 (dl _ g03)) (mm (Int.dvd_sub t4 (dl _ hv)) h01)
  · have q : m24 - y3 * (m04 + m13) + x3 * y3 * m03 = q24 - y3 * q04 - y3 * q13 + x3 * y3 * q03 - G * m12 + C4 * m02 - y3 * (2 * x3 * V - G - F5) * m01 := by rw [w03, w04, w13, w24, c4e, x1e, y2e, x2e]; grind
    rw [q]
    exact Int.dvd_sub (Int.dvd_add (Int.dvd_sub (Int.dvd_add (Int.dvd_sub (Int.dvd_sub g24 (dl _ g04)) (dl _ g13)) (dl _ g03)) (mm hg h12)) (mm t4 h02)) (mm (dl _ t1) h01)
  · have q : m34 - y3 * m14 + x3 * y3 * m04 = q34 - y1 * q03 - y2 * q13 - y3 * q23 - y3 * q14 + x3 * y3 * q04 + (y3 * V - x3 * G) * m12 + (x3 * C4 - y3 * (3 * x3 * V - 2 * G - F5)) * m02 + ((V - x3 * x3) * C4 - y3 * (x3 * x3 - y3) * V + (x1 + x3 * y3) * G + x3 * y3 * (3 * x3 * V - 2 * G - F5)) * m01 := by
      rw [w34, w03, w04, w13, w14, w23, c4e, x1e, y2e, x2e]
      grind
    rw [q]
    exact Int.dvd_add (Int.dvd_add (Int.dvd_add (Int.dvd_add (Int.dvd_sub (Int.dvd_sub (Int.dvd_sub (Int.dvd_sub g34 (dl _ g03)) (dl _ g13)) (dl _ g23)) (dl _ g14)) (dl _ g04)) (mm (Int.dvd_sub (dl _ hv) (dl _ hg)) h12)) (mm (Int.dvd_sub (dl _ t4) (dl _ t2)) h02)) (mm (Int.dvd_add (Int.dvd_add (Int.dvd_sub (dl _ t4) (dl _ hv)) (dl _ hg)) (dl _ t2)) h01)
