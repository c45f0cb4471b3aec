/-! the letters x and y changed -/
theorem qI1_sym (X Y : Nat → Int) : qI1 Y X = qI1 X Y := by
  unfold qI1
  grind
theorem qJ3_sw (X Y W : Nat → Int) : qJ3 Y X W = qJ3 X Y W := by
  unfold qJ3 qJt
  simp only [if_true, if_false, Nat.reduceEqDiff]
  grind
theorem sw600 (X Y W : Nat → Int) : tT600 Y X W = tT060 X Y W := by
  unfold tT600 tT060 qT600 qT060
  try rw [qI1_sym X Y]
  try rw [qJ3_sw X Y W]
  grind
theorem sw510 (X Y W : Nat → Int) : tT510 Y X W = tT150 X Y W := by
  unfold tT510 tT150 qT510 qT150
  try rw [qI1_sym X Y]
  try rw [qJ3_sw X Y W]
  grind
theorem sw501 (X Y W : Nat → Int) : tT501 Y X W = tT051 X Y W := by
  unfold tT501 tT051 qT501 qT051
  try rw [qI1_sym X Y]
  try rw [qJ3_sw X Y W]
  grind
theorem sw420 (X Y W : Nat → Int) : tT420 Y X W = tT240 X Y W := by
  unfold tT420 tT240 qT420 qT240
  try rw [qI1_sym X Y]
  try rw [qJ3_sw X Y W]
  grind
theorem sw411 (X Y W : Nat → Int) : tT411 Y X W = tT141 X Y W := by
  unfold tT411 tT141 qT411 qT141
  try rw [qI1_sym X Y]
  try rw [qJ3_sw X Y W]
  grind
theorem sw402 (X Y W : Nat → Int) : tT402 Y X W = tT042 X Y W := by
  unfold tT402 tT042 qT402 qT042
  try rw [qI1_sym X Y]
  try rw [qJ3_sw X Y W]
  grind
theorem sw330 (X Y W : Nat → Int) : tT330 Y X W = tT330 X Y W := by
  unfold tT330 qT330
  try rw [qI1_sym X Y]
  try rw [qJ3_sw X Y W]
  grind
theorem sw321 (X Y W : Nat → Int) : tT321 Y X W = tT231 X Y W := by
  unfold tT321 tT231 qT321 qT231
  try rw [qI1_sym X Y]
  try rw [qJ3_sw X Y W]
  grind
theorem sw312 (X Y W : Nat → Int) : tT312 Y X W = tT132 X Y W := by
  unfold tT312 tT132 qT312 qT132
  try rw [qI1_sym X Y]
  try rw [qJ3_sw X Y W]
  grind
theorem sw303 (X Y W : Nat → Int) : tT303 Y X W = tT033 X Y W := by
  unfold tT303 tT033 qT303 qT033
  try rw [qI1_sym X Y]
  try rw [qJ3_sw X Y W]
  grind
theorem sw240 (X Y W : Nat → Int) : tT240 Y X W = tT420 X Y W := by
  unfold tT240 tT420 qT240 qT420
  try rw [qI1_sym X Y]
  try rw [qJ3_sw X Y W]
  grind
theorem sw231 (X Y W : Nat → Int) : tT231 Y X W = tT321 X Y W := by
  unfold tT231 tT321 qT231 qT321
  try rw [qI1_sym X Y]
  try rw [qJ3_sw X Y W]
  grind
theorem sw222 (X Y W : Nat → Int) : tT222 Y X W = tT222 X Y W := by
  unfold tT222 qT222
  try rw [qI1_sym X Y]
  try rw [qJ3_sw X Y W]
  grind
theorem sw213 (X Y W : Nat → Int) : tT213 Y X W = tT123 X Y W := by
  unfold tT213 tT123 qT213 qT123
  try rw [qI1_sym X Y]
  try rw [qJ3_sw X Y W]
  grind
theorem sw204 (X Y W : Nat → Int) : tT204 Y X W = tT024 X Y W := by
  unfold tT204 tT024 qT204 qT024
  try rw [qI1_sym X Y]
  try rw [qJ3_sw X Y W]
  grind
theorem sw150 (X Y W : Nat → Int) : tT150 Y X W = tT510 X Y W := by
  unfold tT150 tT510 qT150 qT510
  try rw [qI1_sym X Y]
  try rw [qJ3_sw X Y W]
  grind
theorem sw141 (X Y W : Nat → Int) : tT141 Y X W = tT411 X Y W := by
  unfold tT141 tT411 qT141 qT411
  try rw [qI1_sym X Y]
  try rw [qJ3_sw X Y W]
  grind
theorem sw132 (X Y W : Nat → Int) : tT132 Y X W = tT312 X Y W := by
  unfold tT132 tT312 qT132 qT312
  try rw [qI1_sym X Y]
  try rw [qJ3_sw X Y W]
  grind
theorem sw123 (X Y W : Nat → Int) : tT123 Y X W = tT213 X Y W := by
  unfold tT123 tT213 qT123 qT213
  try rw [qI1_sym X Y]
  try rw [qJ3_sw X Y W]
  grind
theorem sw114 (X Y W : Nat → Int) : tT114 Y X W = tT114 X Y W := by
  unfold tT114 qT114
  try rw [qI1_sym X Y]
  try rw [qJ3_sw X Y W]
  grind
theorem sw105 (X Y W : Nat → Int) : tT105 Y X W = tT015 X Y W := by
  unfold tT105 tT015 qT105 qT015
  try rw [qI1_sym X Y]
  try rw [qJ3_sw X Y W]
  grind
theorem sw060 (X Y W : Nat → Int) : tT060 Y X W = tT600 X Y W := by
  unfold tT060 tT600 qT060 qT600
  try rw [qI1_sym X Y]
  try rw [qJ3_sw X Y W]
  grind
theorem sw051 (X Y W : Nat → Int) : tT051 Y X W = tT501 X Y W := by
  unfold tT051 tT501 qT051 qT501
  try rw [qI1_sym X Y]
  try rw [qJ3_sw X Y W]
  grind
theorem sw042 (X Y W : Nat → Int) : tT042 Y X W = tT402 X Y W := by
  unfold tT042 tT402 qT042 qT402
  try rw [qI1_sym X Y]
  try rw [qJ3_sw X Y W]
  grind
theorem sw033 (X Y W : Nat → Int) : tT033 Y X W = tT303 X Y W := by
  unfold tT033 tT303 qT033 qT303
  try rw [qI1_sym X Y]
  try rw [qJ3_sw X Y W]
  grind
theorem sw024 (X Y W : Nat → Int) : tT024 Y X W = tT204 X Y W := by
  unfold tT024 tT204 qT024 qT204
  try rw [qI1_sym X Y]
  try rw [qJ3_sw X Y W]
  grind
theorem sw015 (X Y W : Nat → Int) : tT015 Y X W = tT105 X Y W := by
  unfold tT015 tT105 qT015 qT105
  try rw [qI1_sym X Y]
  try rw [qJ3_sw X Y W]
  grind
theorem sw006 (X Y W : Nat → Int) : tT006 Y X W = tT006 X Y W := by
  unfold tT006 qT006
  try rw [qI1_sym X Y]
  try rw [qJ3_sw X Y W]
  grind
