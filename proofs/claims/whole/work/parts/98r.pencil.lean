/-! the pencil of two quartics: its two invariants as forms, 27 times the discriminant -/
def qI (X : Nat → Int) : Int := 12 * (X 0 * X 4) - 3 * (X 1 * X 3) + X 2 * X 2
def qI1 (X Z : Nat → Int) : Int := 12 * (X 0 * Z 4 + Z 0 * X 4) - 3 * (X 1 * Z 3 + Z 1 * X 3) + 2 * (X 2 * Z 2)
def qJ (X : Nat → Int) : Int := 72 * (X 0 * (X 2 * X 4)) + 9 * (X 1 * (X 2 * X 3)) - 27 * (X 0 * (X 3 * X 3)) - 27 * (X 4 * (X 1 * X 1)) - 2 * (X 2 * (X 2 * X 2))
def qJd (X : Nat → Int) (k : Nat) : Int :=
  if k = 0 then 72 * (X 2 * X 4) - 27 * (X 3 * X 3) else if k = 1 then 9 * (X 2 * X 3) - 54 * (X 4 * X 1) else if k = 2 then 72 * (X 0 * X 4) + 9 * (X 1 * X 3) - 6 * (X 2 * X 2) else if k = 3 then 9 * (X 1 * X 2) - 54 * (X 0 * X 3) else 72 * (X 0 * X 2) - 27 * (X 1 * X 1)
def qId (X : Nat → Int) (k : Nat) : Int :=
  if k = 0 then 12 * X 4 else if k = 1 then -3 * X 3 else if k = 2 then 2 * X 2 else if k = 3 then -3 * X 1 else 12 * X 0
def qJ1 (X Z : Nat → Int) : Int := qJd X 0 * Z 0 + qJd X 1 * Z 1 + qJd X 2 * Z 2 + qJd X 3 * Z 3 + qJd X 4 * Z 4
def qG (X Z : Nat → Int) (j : Nat) : Int :=
  if j = 0 then 4 * (qI X * (qI X * qI X)) - qJ X * qJ X
  else if j = 1 then 12 * (qI X * (qI X * qI1 X Z)) - 2 * (qJ X * qJ1 X Z)
  else if j = 2 then 12 * (qI X * (qI X * qI Z)) + 12 * (qI X * (qI1 X Z * qI1 X Z)) - 2 * (qJ X * qJ1 Z X) - qJ1 X Z * qJ1 X Z
  else if j = 3 then 24 * (qI X * (qI1 X Z * qI Z)) + 4 * (qI1 X Z * (qI1 X Z * qI1 X Z)) - 2 * (qJ X * qJ Z) - 2 * (qJ1 X Z * qJ1 Z X)
  else if j = 4 then 12 * (qI Z * (qI Z * qI X)) + 12 * (qI Z * (qI1 X Z * qI1 X Z)) - 2 * (qJ Z * qJ1 X Z) - qJ1 Z X * qJ1 Z X
  else if j = 5 then 12 * (qI Z * (qI Z * qI1 X Z)) - 2 * (qJ Z * qJ1 Z X)
  else 4 * (qI Z * (qI Z * qI Z)) - qJ Z * qJ Z
/-- the discriminant (27 times) of a member -/
def qD (X : Nat → Int) : Int := 4 * (qI X * (qI X * qI X)) - qJ X * qJ X
theorem qI_pencil (X Z : Nat → Int) (s r : Int) : qI (fun k => s * X k + r * Z k) = s * s * qI X + s * r * qI1 X Z + r * r * qI Z := by
  unfold qI qI1
  grind
theorem qJ_pencil (X Z : Nat → Int) (s r : Int) : qJ (fun k => s * X k + r * Z k) = s * s * s * qJ X + s * s * r * qJ1 X Z + s * r * r * qJ1 Z X + r * r * r * qJ Z := by
  unfold qJ qJ1 qJd
  simp only [if_true, if_false, Nat.reduceEqDiff]
  grind
theorem qD_pencil (X Z : Nat → Int) (s r : Int) : qD (fun k => s * X k + r * Z k) = s * s * s * s * s * s * qG X Z 0 + s * s * s * s * s * r * qG X Z 1 + s * s * s * s * r * r * qG X Z 2 + s * s * s * r * r * r * qG X Z 3 + s * s * r * r * r * r * qG X Z 4 + s * r * r * r * r * r * qG X Z 5 + r * r * r * r * r * r * qG X Z 6 := by
  unfold qD
  rw [qI_pencil, qJ_pencil]
  unfold qG
  simp only [if_true, if_false, Nat.reduceEqDiff]
  generalize qI X = a
  generalize qI Z = b
  generalize qI1 X Z = c
  generalize qJ X = d
  generalize qJ Z = e
  generalize qJ1 X Z = f
  generalize qJ1 Z X = g
  grind
theorem qG1_lin (X Z : Nat → Int) : qG X Z 1 = (12 * (qI X * qI X) * qId X 0 - 2 * qJ X * qJd X 0) * Z 0 + (12 * (qI X * qI X) * qId X 1 - 2 * qJ X * qJd X 1) * Z 1 + (12 * (qI X * qI X) * qId X 2 - 2 * qJ X * qJd X 2) * Z 2 + (12 * (qI X * qI X) * qId X 3 - 2 * qJ X * qJd X 3) * Z 3 + (12 * (qI X * qI X) * qId X 4 - 2 * qJ X * qJd X 4) * Z 4 := by
  have h : qI1 X Z = qId X 0 * Z 0 + qId X 1 * Z 1 + qId X 2 * Z 2 + qId X 3 * Z 3 + qId X 4 * Z 4 := by
    unfold qI1 qId
    simp only [if_true, if_false, Nat.reduceEqDiff]
    grind
  unfold qG
  simp only [if_true, if_false, Nat.reduceEqDiff]
  rw [h]
  unfold qJ1
  grind
/-! the roots' first digits: what is true without them -/
theorem kp_eq (C e0 e1 e2 e3 h3 h4 M G0 G1 G2 G3 G4 : Int) (q0 : G0 = C * (e0 * e0)) (q1 : G1 = C * (2 * e0 * e1)) (q2 : G2 = C * (2 * e0 * e2 + e1 * e1)) (q3 : G3 = C * (2 * e0 * e3 + 2 * e1 * e2 + M * h3)) (q4 : G4 = C * (2 * e1 * e3 + e2 * e2 + M * h4)) :
    (4 * G0 * G2 - G1 * G1) * (5 * (G1 * G1) - 4 * G0 * G2) - 32 * (G0 * G0) * (G1 * G3 - 2 * (G0 * G4)) = 64 * (C * C * C * C * (e0 * e0 * e0 * e0 * e0)) * (M * (e0 * h4 - e1 * h3)) := by
  have a1 : 4 * G0 * G2 - G1 * G1 = 8 * (C * C) * (e0 * e0 * e0 * e2) := by rw [q0, q1, q2]; grind
  have a2 : 5 * (G1 * G1) - 4 * G0 * G2 = 8 * (C * C) * (e0 * e0) * (2 * (e1 * e1) - e0 * e2) := by rw [q0, q1, q2]; grind
  have a3 : G1 * G3 - 2 * (G0 * G4) = C * C * (2 * e0) * (2 * (e1 * e1) * e2 - e0 * (e2 * e2) + M * (e1 * h3 - e0 * h4)) := by rw [q0, q1, q3, q4]; grind
  rw [a1, a2, a3, q0]
  grind
