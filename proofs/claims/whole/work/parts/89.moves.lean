/-! the row read backwards, and the row at t + 1 -/
def rv (X : Nat → Int) : Nat → Int := fun i => X (4 - i)
theorem m3_rv (X Y W : Nat → Int) (x y w : Int) (i j : Nat) : m3 (rv X) (rv Y) (rv W) x y w i j = m3 X Y W x y w (4 - i) (4 - j) := rfl
theorem dS_rv (a b c d e f g h i j : Int) : dS (-j) (-i) (-g) (-d) (-h) (-f) (-c) (-e) (-b) (-a) = dS a b c d e f g h i j := by
  unfold dS det4
  grind
theorem FF_rv (X Y W : Nat → Int) (x y w : Int) : FF (rv X) (rv Y) (rv W) x y w = FF X Y W x y w := by
  unfold FF
  simp only [m3_rv]
  show dS (m3 X Y W x y w 4 3) (m3 X Y W x y w 4 2) (m3 X Y W x y w 4 1) (m3 X Y W x y w 4 0) (m3 X Y W x y w 4 1 + m3 X Y W x y w 3 2) (m3 X Y W x y w 4 0 + m3 X Y W x y w 3 1) (m3 X Y W x y w 3 0) (m3 X Y W x y w 3 0 + m3 X Y W x y w 2 1) (m3 X Y W x y w 2 0) (m3 X Y W x y w 1 0) = _
  rw [m3_anti X Y W x y w 4 3, m3_anti X Y W x y w 4 2, m3_anti X Y W x y w 4 1, m3_anti X Y W x y w 4 0, m3_anti X Y W x y w 3 2, m3_anti X Y W x y w 3 1, m3_anti X Y W x y w 3 0, m3_anti X Y W x y w 2 1, m3_anti X Y W x y w 2 0, m3_anti X Y W x y w 1 0]
  rw [← Int.neg_add, ← Int.neg_add, ← Int.neg_add]
  exact dS_rv _ _ _ _ _ _ _ _ _ _
theorem SQ_rv {X Y W e G : Nat → Int} {c : Int} (h : SQ X Y W e G c) : SQ (rv X) (rv Y) (rv W) e G c := fun x y w => by rw [FF_rv]; exact h x y w
def sf (X : Nat → Int) : Nat → Int := fun i => match i with
  | 0 => X 0 + X 1 + X 2 + X 3 + X 4
  | 1 => X 1 + 2 * X 2 + 3 * X 3 + 4 * X 4
  | 2 => X 2 + 3 * X 3 + 6 * X 4
  | 3 => X 3 + 4 * X 4
  | 4 => X 4
  | _ => 0
theorem dS_s2 (a b c d e f g h i j : Int) : dS a b (c + d) d e (f + g) g (h + 2 * i + j) (i + j) j = dS a b c d e f g h i j := by
  unfold dS det4
  grind
theorem dS_s1 (a b c d e f g h i j : Int) : dS a (b + c) c d (e + 2 * f + h) (f + h) (g + i) h i j = dS a b c d e f g h i j := by
  unfold dS det4
  grind
theorem dS_s0 (a b c d e f g h i j : Int) : dS (a + 2 * b + e) (b + e) (c + f) (d + g) e f g h i j = dS a b c d e f g h i j := by
  unfold dS det4
  grind
theorem dS_sf (a b c d e f g h i j : Int) : dS (a + 2 * b + 2 * c + 2 * d + e + 2 * f + 2 * g + h + 2 * i + j) (b + 2 * c + 3 * d + e + 3 * f + 4 * g + 2 * h + 5 * i + 3 * j) (c + 3 * d + f + 3 * g + h + 4 * i + 3 * j) (d + g + i + j) (e + 4 * f + 6 * g + 4 * h + 12 * i + 9 * j) (f + 3 * g + 2 * h + 9 * i + 9 * j) (g + 2 * i + 3 * j) (h + 6 * i + 9 * j) (i + 3 * j) (j) = dS a b c d e f g h i j := by
  have k5 := dS_s2 (a + 2 * b + 2 * c + 2 * d + e + 2 * f + 2 * g + h + 2 * i + j) (b + 2 * c + 3 * d + e + 3 * f + 4 * g + 2 * h + 5 * i + 3 * j) (c + 2 * d + f + 2 * g + h + 3 * i + 2 * j) (d + g + i + j) (e + 4 * f + 6 * g + 4 * h + 12 * i + 9 * j) (f + 2 * g + 2 * h + 7 * i + 6 * j) (g + 2 * i + 3 * j) (h + 4 * i + 4 * j) (i + 2 * j) (j)
  have k4 := dS_s1 (a + 2 * b + 2 * c + 2 * d + e + 2 * f + 2 * g + h + 2 * i + j) (b + c + d + e + 2 * f + 2 * g + h + 2 * i + j) (c + 2 * d + f + 2 * g + h + 3 * i + 2 * j) (d + g + i + j) (e + 2 * f + 2 * g + h + 2 * i + j) (f + 2 * g + h + 3 * i + 2 * j) (g + i + j) (h + 4 * i + 4 * j) (i + 2 * j) (j)
  have k3 := dS_s2 (a + 2 * b + 2 * c + 2 * d + e + 2 * f + 2 * g + h + 2 * i + j) (b + c + d + e + 2 * f + 2 * g + h + 2 * i + j) (c + d + f + g + h + 2 * i + j) (d + g + i + j) (e + 2 * f + 2 * g + h + 2 * i + j) (f + g + h + 2 * i + j) (g + i + j) (h + 2 * i + j) (i + j) (j)
  have k2 := dS_s0 (a) (b + c + d) (c + d) (d) (e + 2 * f + 2 * g + h + 2 * i + j) (f + g + h + 2 * i + j) (g + i + j) (h + 2 * i + j) (i + j) (j)
  have k1 := dS_s1 (a) (b) (c + d) (d) (e) (f + g) (g) (h + 2 * i + j) (i + j) (j)
  have k0 := dS_s2 (a) (b) (c) (d) (e) (f) (g) (h) (i) (j)
  have f1 : dS (a + 2 * b + 2 * c + 2 * d + e + 2 * f + 2 * g + h + 2 * i + j) (b + 2 * c + 3 * d + e + 3 * f + 4 * g + 2 * h + 5 * i + 3 * j) (c + 3 * d + f + 3 * g + h + 4 * i + 3 * j) (d + g + i + j) (e + 4 * f + 6 * g + 4 * h + 12 * i + 9 * j) (f + 3 * g + 2 * h + 9 * i + 9 * j) (g + 2 * i + 3 * j) (h + 6 * i + 9 * j) (i + 3 * j) (j) = dS (a + 2 * b + 2 * c + 2 * d + e + 2 * f + 2 * g + h + 2 * i + j) (b + 2 * c + 3 * d + e + 3 * f + 4 * g + 2 * h + 5 * i + 3 * j) (c + 2 * d + f + 2 * g + h + 3 * i + 2 * j) (d + g + i + j) (e + 4 * f + 6 * g + 4 * h + 12 * i + 9 * j) (f + 2 * g + 2 * h + 7 * i + 6 * j) (g + 2 * i + 3 * j) (h + 4 * i + 4 * j) (i + 2 * j) (j) := by
    refine Eq.trans ?_ k5
    first | rfl | (congr 1 <;> omega)
  have f2 : dS (a + 2 * b + 2 * c + 2 * d + e + 2 * f + 2 * g + h + 2 * i + j) (b + 2 * c + 3 * d + e + 3 * f + 4 * g + 2 * h + 5 * i + 3 * j) (c + 2 * d + f + 2 * g + h + 3 * i + 2 * j) (d + g + i + j) (e + 4 * f + 6 * g + 4 * h + 12 * i + 9 * j) (f + 2 * g + 2 * h + 7 * i + 6 * j) (g + 2 * i + 3 * j) (h + 4 * i + 4 * j) (i + 2 * j) (j) = dS (a + 2 * b + 2 * c + 2 * d + e + 2 * f + 2 * g + h + 2 * i + j) (b + c + d + e + 2 * f + 2 * g + h + 2 * i + j) (c + 2 * d + f + 2 * g + h + 3 * i + 2 * j) (d + g + i + j) (e + 2 * f + 2 * g + h + 2 * i + j) (f + 2 * g + h + 3 * i + 2 * j) (g + i + j) (h + 4 * i + 4 * j) (i + 2 * j) (j) := by
    refine Eq.trans ?_ k4
    first | done | rfl | (congr 1 <;> omega)
  have f3 : dS (a + 2 * b + 2 * c + 2 * d + e + 2 * f + 2 * g + h + 2 * i + j) (b + c + d + e + 2 * f + 2 * g + h + 2 * i + j) (c + 2 * d + f + 2 * g + h + 3 * i + 2 * j) (d + g + i + j) (e + 2 * f + 2 * g + h + 2 * i + j) (f + 2 * g + h + 3 * i + 2 * j) (g + i + j) (h + 4 * i + 4 * j) (i + 2 * j) (j) = dS (a + 2 * b + 2 * c + 2 * d + e + 2 * f + 2 * g + h + 2 * i + j) (b + c + d + e + 2 * f + 2 * g + h + 2 * i + j) (c + d + f + g + h + 2 * i + j) (d + g + i + j) (e + 2 * f + 2 * g + h + 2 * i + j) (f + g + h + 2 * i + j) (g + i + j) (h + 2 * i + j) (i + j) (j) := by
    refine Eq.trans ?_ k3
    first | done | rfl | (congr 1 <;> omega)
  have f4 : dS (a + 2 * b + 2 * c + 2 * d + e + 2 * f + 2 * g + h + 2 * i + j) (b + c + d + e + 2 * f + 2 * g + h + 2 * i + j) (c + d + f + g + h + 2 * i + j) (d + g + i + j) (e + 2 * f + 2 * g + h + 2 * i + j) (f + g + h + 2 * i + j) (g + i + j) (h + 2 * i + j) (i + j) (j) = dS (a) (b + c + d) (c + d) (d) (e + 2 * f + 2 * g + h + 2 * i + j) (f + g + h + 2 * i + j) (g + i + j) (h + 2 * i + j) (i + j) (j) := by
    refine Eq.trans ?_ k2
    first | done | rfl | (congr 1 <;> omega)
  have f5 : dS (a) (b + c + d) (c + d) (d) (e + 2 * f + 2 * g + h + 2 * i + j) (f + g + h + 2 * i + j) (g + i + j) (h + 2 * i + j) (i + j) (j) = dS (a) (b) (c + d) (d) (e) (f + g) (g) (h + 2 * i + j) (i + j) (j) := by
    refine Eq.trans ?_ k1
    first | done | rfl | (congr 1 <;> omega)
  have f6 : dS (a) (b) (c + d) (d) (e) (f + g) (g) (h + 2 * i + j) (i + j) (j) = dS (a) (b) (c) (d) (e) (f) (g) (h) (i) (j) := by
    refine Eq.trans ?_ k0
    first | done | rfl | (congr 1 <;> omega)
  rw [f1, f2, f3, f4, f5, f6]
theorem ms_a (X Y W : Nat → Int) (x y w : Int) : m3 (sf X) (sf Y) (sf W) x y w 0 1 = (m3 X Y W x y w 0 1) + 2 * (m3 X Y W x y w 0 2) + 2 * (m3 X Y W x y w 0 3) + 2 * (m3 X Y W x y w 0 4) + (m3 X Y W x y w 0 3 + m3 X Y W x y w 1 2) + 2 * (m3 X Y W x y w 0 4 + m3 X Y W x y w 1 3) + 2 * (m3 X Y W x y w 1 4) + (m3 X Y W x y w 1 4 + m3 X Y W x y w 2 3) + 2 * (m3 X Y W x y w 2 4) + (m3 X Y W x y w 3 4) := by
  simp only [m3, sf]
  grind
theorem ms_b (X Y W : Nat → Int) (x y w : Int) : m3 (sf X) (sf Y) (sf W) x y w 0 2 = (m3 X Y W x y w 0 2) + 2 * (m3 X Y W x y w 0 3) + 3 * (m3 X Y W x y w 0 4) + (m3 X Y W x y w 0 3 + m3 X Y W x y w 1 2) + 3 * (m3 X Y W x y w 0 4 + m3 X Y W x y w 1 3) + 4 * (m3 X Y W x y w 1 4) + 2 * (m3 X Y W x y w 1 4 + m3 X Y W x y w 2 3) + 5 * (m3 X Y W x y w 2 4) + 3 * (m3 X Y W x y w 3 4) := by
  simp only [m3, sf]
  grind
theorem ms_c (X Y W : Nat → Int) (x y w : Int) : m3 (sf X) (sf Y) (sf W) x y w 0 3 = (m3 X Y W x y w 0 3) + 3 * (m3 X Y W x y w 0 4) + (m3 X Y W x y w 0 4 + m3 X Y W x y w 1 3) + 3 * (m3 X Y W x y w 1 4) + (m3 X Y W x y w 1 4 + m3 X Y W x y w 2 3) + 4 * (m3 X Y W x y w 2 4) + 3 * (m3 X Y W x y w 3 4) := by
  simp only [m3, sf]
  grind
theorem ms_d (X Y W : Nat → Int) (x y w : Int) : m3 (sf X) (sf Y) (sf W) x y w 0 4 = (m3 X Y W x y w 0 4) + (m3 X Y W x y w 1 4) + (m3 X Y W x y w 2 4) + (m3 X Y W x y w 3 4) := by
  simp only [m3, sf]
  grind
theorem ms_e (X Y W : Nat → Int) (x y w : Int) : m3 (sf X) (sf Y) (sf W) x y w 0 3 + m3 (sf X) (sf Y) (sf W) x y w 1 2 = (m3 X Y W x y w 0 3 + m3 X Y W x y w 1 2) + 4 * (m3 X Y W x y w 0 4 + m3 X Y W x y w 1 3) + 6 * (m3 X Y W x y w 1 4) + 4 * (m3 X Y W x y w 1 4 + m3 X Y W x y w 2 3) + 12 * (m3 X Y W x y w 2 4) + 9 * (m3 X Y W x y w 3 4) := by
  simp only [m3, sf]
  grind
theorem ms_f (X Y W : Nat → Int) (x y w : Int) : m3 (sf X) (sf Y) (sf W) x y w 0 4 + m3 (sf X) (sf Y) (sf W) x y w 1 3 = (m3 X Y W x y w 0 4 + m3 X Y W x y w 1 3) + 3 * (m3 X Y W x y w 1 4) + 2 * (m3 X Y W x y w 1 4 + m3 X Y W x y w 2 3) + 9 * (m3 X Y W x y w 2 4) + 9 * (m3 X Y W x y w 3 4) := by
  simp only [m3, sf]
  grind
theorem ms_g (X Y W : Nat → Int) (x y w : Int) : m3 (sf X) (sf Y) (sf W) x y w 1 4 = (m3 X Y W x y w 1 4) + 2 * (m3 X Y W x y w 2 4) + 3 * (m3 X Y W x y w 3 4) := by
  simp only [m3, sf]
  grind
theorem ms_h (X Y W : Nat → Int) (x y w : Int) : m3 (sf X) (sf Y) (sf W) x y w 1 4 + m3 (sf X) (sf Y) (sf W) x y w 2 3 = (m3 X Y W x y w 1 4 + m3 X Y W x y w 2 3) + 6 * (m3 X Y W x y w 2 4) + 9 * (m3 X Y W x y w 3 4) := by
  simp only [m3, sf]
  grind
theorem ms_i (X Y W : Nat → Int) (x y w : Int) : m3 (sf X) (sf Y) (sf W) x y w 2 4 = (m3 X Y W x y w 2 4) + 3 * (m3 X Y W x y w 3 4) := by
  simp only [m3, sf]
  grind
theorem ms_j (X Y W : Nat → Int) (x y w : Int) : m3 (sf X) (sf Y) (sf W) x y w 3 4 = (m3 X Y W x y w 3 4) := by
  simp only [m3, sf]
  grind
theorem FF_sf (X Y W : Nat → Int) (x y w : Int) : FF (sf X) (sf Y) (sf W) x y w = FF X Y W x y w := by
  unfold FF
  rw [ms_e, ms_f, ms_h, ms_a, ms_b, ms_c, ms_d, ms_g, ms_i, ms_j]
  exact dS_sf _ _ _ _ _ _ _ _ _ _
theorem SQ_sf {X Y W e G : Nat → Int} {c : Int} (h : SQ X Y W e G c) : SQ (sf X) (sf Y) (sf W) e G c := fun x y w => by rw [FF_sf]; exact h x y w
