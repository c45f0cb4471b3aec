/-! three quartics with a common root that is double in the first: the net's numbers -/
def tdf (T : Nat → Nat → Int) (S : Nat → Nat → Int) : Nat → Nat → Int := fun p q => T p q - 27 * S p q
def tTf (X Y W : Nat → Int) : Nat → Nat → Int
  | 6, 0 => tT600 X Y W
  | 5, 1 => tT510 X Y W
  | 5, 0 => tT501 X Y W
  | 4, 2 => tT420 X Y W
  | 4, 1 => tT411 X Y W
  | 4, 0 => tT402 X Y W
  | 3, 3 => tT330 X Y W
  | 3, 2 => tT321 X Y W
  | 3, 1 => tT312 X Y W
  | 3, 0 => tT303 X Y W
  | 2, 4 => tT240 X Y W
  | 2, 3 => tT231 X Y W
  | 2, 2 => tT222 X Y W
  | 2, 1 => tT213 X Y W
  | 2, 0 => tT204 X Y W
  | 1, 5 => tT150 X Y W
  | 1, 4 => tT141 X Y W
  | 1, 3 => tT132 X Y W
  | 1, 2 => tT123 X Y W
  | 1, 1 => tT114 X Y W
  | 1, 0 => tT105 X Y W
  | 0, 6 => tT060 X Y W
  | 0, 5 => tT051 X Y W
  | 0, 4 => tT042 X Y W
  | 0, 3 => tT033 X Y W
  | 0, 2 => tT024 X Y W
  | 0, 1 => tT015 X Y W
  | 0, 0 => tT006 X Y W
  | _, _ => 0
def sSf (et om : Int) (a b d : Nat → Int) : Nat → Nat → Int
  | 6, 0 => 0
  | 5, 1 => 0
  | 5, 0 => 0
  | 4, 2 => et * et * (dc a)
  | 4, 1 => 2 * et * om * (dc a)
  | 4, 0 => om * om * (dc a)
  | 3, 3 => et * et * (dp a b)
  | 3, 2 => et * et * (dp a d) + 2 * et * om * (dp a b)
  | 3, 1 => 2 * et * om * (dp a d) + om * om * (dp a b)
  | 3, 0 => om * om * (dp a d)
  | 2, 4 => et * et * (dr a b)
  | 2, 3 => et * et * (dt a b d) + 2 * et * om * (dr a b)
  | 2, 2 => et * et * (dr a d) + 2 * et * om * (dt a b d) + om * om * (dr a b)
  | 2, 1 => 2 * et * om * (dr a d) + om * om * (dt a b d)
  | 2, 0 => om * om * (dr a d)
  | 1, 5 => et * et * (dp b a)
  | 1, 4 => et * et * (dt b a d) + 2 * et * om * (dp b a)
  | 1, 3 => et * et * (dt d a b) + 2 * et * om * (dt b a d) + om * om * (dp b a)
  | 1, 2 => et * et * (dp d a) + 2 * et * om * (dt d a b) + om * om * (dt b a d)
  | 1, 1 => 2 * et * om * (dp d a) + om * om * (dt d a b)
  | 1, 0 => om * om * (dp d a)
  | 0, 6 => et * et * (dc b)
  | 0, 5 => et * et * (dp b d) + 2 * et * om * (dc b)
  | 0, 4 => et * et * (dr b d) + 2 * et * om * (dp b d) + om * om * (dc b)
  | 0, 3 => et * et * (dp d b) + 2 * et * om * (dr b d) + om * om * (dp b d)
  | 0, 2 => et * et * (dc d) + 2 * et * om * (dp d b) + om * om * (dr b d)
  | 0, 1 => 2 * et * om * (dc d) + om * om * (dp d b)
  | 0, 0 => om * om * (dc d)
  | _, _ => 0
theorem lc_net (p q : Int) (a b d : Nat → Int) (x y w : Int) (k : Nat) : x * lc p q a k + y * lc p q b k + w * lc p q d k = lc p q (fun k => x * a k + y * b k + w * d k) k := by
  match k with
  | 0 => show x * (-q * a 0) + y * (-q * b 0) + w * (-q * d 0) = -q * (x * a 0 + y * b 0 + w * d 0); grind
  | 1 => show x * (p * a 0 - q * a 1) + y * (p * b 0 - q * b 1) + w * (p * d 0 - q * d 1) = p * (x * a 0 + y * b 0 + w * d 0) - q * (x * a 1 + y * b 1 + w * d 1); grind
  | 2 => show x * (p * a 1 - q * a 2) + y * (p * b 1 - q * b 2) + w * (p * d 1 - q * d 2) = p * (x * a 1 + y * b 1 + w * d 1) - q * (x * a 2 + y * b 2 + w * d 2); grind
  | 3 => show x * (p * a 2 - q * a 3) + y * (p * b 2 - q * b 3) + w * (p * d 2 - q * d 3) = p * (x * a 2 + y * b 2 + w * d 2) - q * (x * a 3 + y * b 3 + w * d 3); grind
  | _ + 4 => show x * (p * a 3) + y * (p * b 3) + w * (p * d 3) = p * (x * a 3 + y * b 3 + w * d 3); grind
theorem rc_net (p q : Int) (a b d : Nat → Int) (x y w : Int) : rc p q (fun k => x * a k + y * b k + w * d k) = x * rc p q a + y * rc p q b + w * rc p q d := by
  unfold rc
  grind
theorem tT_lc (p q : Int) (a b d : Nat → Int) (hr : rc p q a = 0) : ∀ i j, i + j ≤ 6 → tTf (lc p q a) (lc p q b) (lc p q d) i j = 27 * sSf (rc p q b) (rc p q d) a b d i j := by
  have h : ∀ x y : Int, hom6 (tdf (tTf (lc p q a) (lc p q b) (lc p q d)) (sSf (rc p q b) (rc p q d) a b d)) x y 1 = 0 := by
    intro x y
    have e := qD_net (lc p q a) (lc p q b) (lc p q d) x y 1
    have g : (fun k => x * lc p q a k + y * lc p q b k + 1 * lc p q d k) = lc p q (fun k => x * a k + y * b k + 1 * d k) := funext (fun k => lc_net p q a b d x y 1 k)
    rw [g, qD_lc, rc_net, dc_net, hr] at e
    generalize rc p q b = et at *
    generalize rc p q d = om at *
    unfold hom6 tdf
    simp only [tTf, sSf]
    clear g hr
    generalize tT600 (lc p q a) (lc p q b) (lc p q d) = t600 at *
    generalize tT510 (lc p q a) (lc p q b) (lc p q d) = t510 at *
    generalize tT501 (lc p q a) (lc p q b) (lc p q d) = t501 at *
    generalize tT420 (lc p q a) (lc p q b) (lc p q d) = t420 at *
    generalize tT411 (lc p q a) (lc p q b) (lc p q d) = t411 at *
    generalize tT402 (lc p q a) (lc p q b) (lc p q d) = t402 at *
    generalize tT330 (lc p q a) (lc p q b) (lc p q d) = t330 at *
    generalize tT321 (lc p q a) (lc p q b) (lc p q d) = t321 at *
    generalize tT312 (lc p q a) (lc p q b) (lc p q d) = t312 at *
    generalize tT303 (lc p q a) (lc p q b) (lc p q d) = t303 at *
    generalize tT240 (lc p q a) (lc p q b) (lc p q d) = t240 at *
    generalize tT231 (lc p q a) (lc p q b) (lc p q d) = t231 at *
    generalize tT222 (lc p q a) (lc p q b) (lc p q d) = t222 at *
    generalize tT213 (lc p q a) (lc p q b) (lc p q d) = t213 at *
    generalize tT204 (lc p q a) (lc p q b) (lc p q d) = t204 at *
    generalize tT150 (lc p q a) (lc p q b) (lc p q d) = t150 at *
    generalize tT141 (lc p q a) (lc p q b) (lc p q d) = t141 at *
    generalize tT132 (lc p q a) (lc p q b) (lc p q d) = t132 at *
    generalize tT123 (lc p q a) (lc p q b) (lc p q d) = t123 at *
    generalize tT114 (lc p q a) (lc p q b) (lc p q d) = t114 at *
    generalize tT105 (lc p q a) (lc p q b) (lc p q d) = t105 at *
    generalize tT060 (lc p q a) (lc p q b) (lc p q d) = t060 at *
    generalize tT051 (lc p q a) (lc p q b) (lc p q d) = t051 at *
    generalize tT042 (lc p q a) (lc p q b) (lc p q d) = t042 at *
    generalize tT033 (lc p q a) (lc p q b) (lc p q d) = t033 at *
    generalize tT024 (lc p q a) (lc p q b) (lc p q d) = t024 at *
    generalize tT015 (lc p q a) (lc p q b) (lc p q d) = t015 at *
    generalize tT006 (lc p q a) (lc p q b) (lc p q d) = t006 at *
    generalize dc a = c0 at *
    generalize dp a b = c1 at *
    generalize dp a d = c2 at *
    generalize dr a b = c3 at *
    generalize dt a b d = c4 at *
    generalize dr a d = c5 at *
    generalize dp b a = c6 at *
    generalize dt b a d = c7 at *
    generalize dt d a b = c8 at *
    generalize dp d a = c9 at *
    generalize dc b = c10 at *
    generalize dp b d = c11 at *
    generalize dr b d = c12 at *
    generalize dp d b = c13 at *
    generalize dc d = c14 at *
    grind
  intro i j hij
  have := hom6_zero _ h i j hij
  unfold tdf at this
  omega
