theorem Fm_GG0 (X Y W : Nat → Int) : Fm (fun x y w => GG0 X Y W x y w) := by
  obtain ⟨Q, hQ⟩ := ((((Fm_mm X Y W 0 1 1 2).sc ((-(4 * d3 X Y W 0 1 2 * d3 X Y W 0 2 3) + 3 * d3 X Y W 0 1 3 * d3 X Y W 0 1 3) * (-(4 * d3 X Y W 0 1 2 * d3 X Y W 0 2 3) + 3 * d3 X Y W 0 1 3 * d3 X Y W 0 1 3) * ((2 * d3 X Y W 0 1 2) * (2 * d3 X Y W 0 1 2) * (2 * d3 X Y W 0 1 2) * (2 * d3 X Y W 0 1 2)))).add ((Fm_mm X Y W 0 2 0 2).sc (-((-(4 * d3 X Y W 0 1 2 * d3 X Y W 0 2 3) + 3 * d3 X Y W 0 1 3 * d3 X Y W 0 1 3) * (-(4 * d3 X Y W 0 1 2 * d3 X Y W 0 2 3) + 3 * d3 X Y W 0 1 3 * d3 X Y W 0 1 3) * ((2 * d3 X Y W 0 1 2) * (2 * d3 X Y W 0 1 2) * (2 * d3 X Y W 0 1 2) * (2 * d3 X Y W 0 1 2)))))).add ((Fm_mm X Y W 0 1 0 2).sc ((-(4 * d3 X Y W 0 1 2 * d3 X Y W 0 2 3) + 3 * d3 X Y W 0 1 3 * d3 X Y W 0 1 3) * (-(4 * d3 X Y W 0 1 2 * d3 X Y W 0 2 3) + 3 * d3 X Y W 0 1 3 * d3 X Y W 0 1 3) * (2 * d3 X Y W 0 1 3 * ((2 * d3 X Y W 0 1 2) * (2 * d3 X Y W 0 1 2) * (2 * d3 X Y W 0 1 2)))))).add ((Fm_mm X Y W 0 1 0 1).sc ((-(4 * d3 X Y W 0 1 2 * d3 X Y W 0 2 3) + 3 * d3 X Y W 0 1 3 * d3 X Y W 0 1 3) * (-(4 * d3 X Y W 0 1 2 * d3 X Y W 0 2 3) + 3 * d3 X Y W 0 1 3 * d3 X Y W 0 1 3) * ((2 * -(4 * d3 X Y W 0 1 2 * d3 X Y W 0 2 3) + 3 * d3 X Y W 0 1 3 * d3 X Y W 0 1 3) * ((2 * d3 X Y W 0 1 2) * (2 * d3 X Y W 0 1 2)))))
  refine ⟨Q, fun x y w => ?_⟩
  show GG0 X Y W x y w = cE Q x y w
  rw [← hQ]
  dsimp only
  unfold GG0
  clear hQ
  generalize -(4 * d3 X Y W 0 1 2 * d3 X Y W 0 2 3) = B
  generalize d3 X Y W 0 1 3 = T
  generalize 2 * d3 X Y W 0 1 2 = P
  generalize m3 X Y W x y w 0 1 = a
  generalize m3 X Y W x y w 0 2 = b
  generalize m3 X Y W x y w 1 2 = c
  generalize (B + 3 * T * T) * (B + 3 * T * T) = K
  grind
