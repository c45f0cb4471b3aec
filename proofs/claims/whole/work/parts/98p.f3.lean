theorem F3_ring (t a b c d : Int) : dd3 (t * t * a + t * t * t * b) (-(t * a) + t * t * t * c) (-(t * b) - t * t * c) (-(t * b) - t * t * c + (a + t * t * t * d)) (b - t * t * d) (c + t * d) = 0 := by
  unfold dd3
  grind
theorem F3_curve {X Y W : Nat → Int} (h4 : X 4 = 0 ∧ Y 4 = 0 ∧ W 4 = 0) (t : Int) : F3 X Y W (pv X t) (pv Y t) (pv W t) = 0 := by
  have e1 : m3 X Y W (pv X t) (pv Y t) (pv W t) 0 1 = t * t * d3 X Y W 0 1 2 + t * t * t * d3 X Y W 0 1 3 := by
    unfold m3 pv d3
    rw [h4.1, h4.2.1, h4.2.2]
    clear h4
    grind
  have e2 : m3 X Y W (pv X t) (pv Y t) (pv W t) 0 2 = -(t * d3 X Y W 0 1 2) + t * t * t * d3 X Y W 0 2 3 := by
    unfold m3 pv d3
    rw [h4.1, h4.2.1, h4.2.2]
    clear h4 e1
    grind
  have e3 : m3 X Y W (pv X t) (pv Y t) (pv W t) 0 3 = -(t * d3 X Y W 0 1 3) - t * t * d3 X Y W 0 2 3 := by
    unfold m3 pv d3
    rw [h4.1, h4.2.1, h4.2.2]
    clear h4 e1 e2
    grind
  have e4 : m3 X Y W (pv X t) (pv Y t) (pv W t) 1 2 = d3 X Y W 0 1 2 + t * t * t * d3 X Y W 1 2 3 := by
    unfold m3 pv d3
    rw [h4.1, h4.2.1, h4.2.2]
    clear h4 e1 e2 e3
    grind
  have e5 : m3 X Y W (pv X t) (pv Y t) (pv W t) 1 3 = d3 X Y W 0 1 3 - t * t * d3 X Y W 1 2 3 := by
    unfold m3 pv d3
    rw [h4.1, h4.2.1, h4.2.2]
    clear h4 e1 e2 e3 e4
    grind
  have e6 : m3 X Y W (pv X t) (pv Y t) (pv W t) 2 3 = d3 X Y W 0 2 3 + t * d3 X Y W 1 2 3 := by
    unfold m3 pv d3
    rw [h4.1, h4.2.1, h4.2.2]
    clear h4 e1 e2 e3 e4 e5
    grind
  unfold F3
  rw [e1, e2, e3, e4, e5, e6]
  exact F3_ring ..
