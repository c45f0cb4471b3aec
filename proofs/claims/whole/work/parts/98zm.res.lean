/-! the two derivatives' resultant is 16 times the discriminant -/
def dq3 (r00 r01 r02 r11 r12 r22 : Int) : Int := r00 * (r11 * r22 - r12 * r12) - r01 * (r01 * r22 - r12 * r02) + r02 * (r01 * r12 - r11 * r02)
def dva (z : Nat → Int) (k : Nat) : Int := ((k : Int) + 1) * z (k + 1)
def dvb (z : Nat → Int) (k : Nat) : Int := (4 - (k : Int)) * z k
def mdv (z : Nat → Int) (i j : Nat) : Int := dva z i * dvb z j - dva z j * dvb z i
theorem env_res (z : Nat → Int) : 27 * dq3 (mdv z 0 1) (mdv z 0 2) (mdv z 0 3) (mdv z 0 3 + mdv z 1 2) (mdv z 1 3) (mdv z 2 3) = 16 * qD z := by
  have e01 : mdv z 0 1 = 1 * z 1 * (3 * z 1) - 2 * z 2 * (4 * z 0) := rfl
  have e02 : mdv z 0 2 = 1 * z 1 * (2 * z 2) - 3 * z 3 * (4 * z 0) := rfl
  have e03 : mdv z 0 3 = 1 * z 1 * (1 * z 3) - 4 * z 4 * (4 * z 0) := rfl
  have e12 : mdv z 1 2 = 2 * z 2 * (2 * z 2) - 3 * z 3 * (3 * z 1) := rfl
  have e13 : mdv z 1 3 = 2 * z 2 * (1 * z 3) - 4 * z 4 * (3 * z 1) := rfl
  have e23 : mdv z 2 3 = 3 * z 3 * (1 * z 3) - 4 * z 4 * (2 * z 2) := rfl
  rw [e01, e02, e03, e12, e13, e23]
  unfold dq3 qD qI qJ
  generalize z 0 = a
  generalize z 1 = b
  generalize z 2 = c
  generalize z 3 = d
  generalize z 4 = e
  grind
