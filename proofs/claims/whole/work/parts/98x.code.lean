/-! whole numbers mod 2^64 as natural numbers, for the kernel -/
def nP (a b : Nat) : Nat := Nat.mod (Nat.mul a b) 18446744073709551616
def nA (a b : Nat) : Nat := Nat.mod (Nat.add a b) 18446744073709551616
def nS (a b : Nat) : Nat := Nat.mod (Nat.add a (Nat.sub 18446744073709551616 b)) 18446744073709551616
def nB (v : Nat) : Nat := bif Nat.ble v 9223372036854775808 then v else Nat.sub 18446744073709551616 v
def cd (z : Int) : Nat := (z % 18446744073709551616).toNat
theorem cd_int (z : Int) : ((cd z : Nat) : Int) = z % 18446744073709551616 := by
  unfold cd
  exact Int.toNat_of_nonneg (Int.emod_nonneg _ (by decide))
theorem cd_lt (z : Int) : cd z < 18446744073709551616 := by
  have h := cd_int z
  have := Int.emod_lt_of_pos z (show (0 : Int) < 18446744073709551616 by decide)
  omega
theorem nP_cd (x y : Int) : nP (cd x) (cd y) = cd (x * y) := by
  have h : ((nP (cd x) (cd y) : Nat) : Int) = ((cd (x * y) : Nat) : Int) := by
    show ((cd x * cd y % 18446744073709551616 : Nat) : Int) = _
    rw [cd_int, Int.natCast_emod, Int.natCast_mul, cd_int, cd_int]
    exact (Int.mul_emod x y _).symm
  exact Int.ofNat_inj.mp h
theorem nA_cd (x y : Int) : nA (cd x) (cd y) = cd (x + y) := by
  have h : ((nA (cd x) (cd y) : Nat) : Int) = ((cd (x + y) : Nat) : Int) := by
    show (((cd x + cd y) % 18446744073709551616 : Nat) : Int) = _
    rw [cd_int, Int.natCast_emod, Int.natCast_add, cd_int, cd_int]
    exact (Int.add_emod x y _).symm
  exact Int.ofNat_inj.mp h
theorem nS_cd (x y : Int) : nS (cd x) (cd y) = cd (x - y) := by
  have hx := cd_int x
  have hy := cd_int y
  have hz := cd_int (x - y)
  have l := cd_lt y
  have l1 := cd_lt x
  have l2 := cd_lt (x - y)
  show (cd x + (18446744073709551616 - cd y)) % 18446744073709551616 = cd (x - y)
  omega
theorem nB_cd (z : Int) (h : z.natAbs ≤ 9223372036854775807) : nB (cd z) = z.natAbs := by
  have hz := cd_int z
  unfold nB
  cases q : Nat.ble (cd z) 9223372036854775808 with
  | true =>
    have := Nat.le_of_ble_eq_true q
    show cd z = _
    omega
  | false =>
    have : ¬ cd z ≤ 9223372036854775808 := by
      intro w
      rw [Nat.ble_eq_true_of_le w] at q
      exact absurd q (by decide)
    show 18446744073709551616 - cd z = _
    omega
def eI (a b c d e : Nat) : Nat := nA (nS (nP 12 (nP a e)) (nP 3 (nP b d))) (nP c c)
def eJ (a b c d e : Nat) : Nat := nS (nS (nS (nA (nP 72 (nP a (nP c e))) (nP 9 (nP b (nP c d)))) (nP 27 (nP a (nP d d)))) (nP 27 (nP e (nP b b)))) (nP 2 (nP c (nP c c)))
def eJ0 (c d e : Nat) : Nat := nS (nP 72 (nP c e)) (nP 27 (nP d d))
def eJ1 (b c d e : Nat) : Nat := nS (nP 9 (nP c d)) (nP 54 (nP e b))
def eJ2 (a b c d e : Nat) : Nat := nS (nA (nP 72 (nP a e)) (nP 9 (nP b d))) (nP 6 (nP c c))
def eJ3 (a b c d : Nat) : Nat := nS (nP 9 (nP b c)) (nP 54 (nP a d))
def eJ4 (a b c : Nat) : Nat := nS (nP 72 (nP a c)) (nP 27 (nP b b))
def eg (p q u v : Nat) : Nat := nB (nS (nP p u) (nP q v))
def eG (a b c d e p q : Nat) : Nat := Nat.mul 7 (Nat.add (Nat.add (Nat.add (Nat.add (eg p q (nP 12 e) (eJ0 c d e)) (eg p q (nP 18446744073709551613 d) (eJ1 b c d e))) (eg p q (nP 2 c) (eJ2 a b c d e))) (eg p q (nP 18446744073709551613 b) (eJ3 a b c d))) (eg p q (nP 12 a) (eJ4 a b c)))
def eK (a b c d e : Nat) : Nat := Nat.mul 7 (Nat.add (Nat.add (Nat.add (Nat.add (nB (eJ0 c d e)) (nB (eJ1 b c d e))) (nB (eJ2 a b c d e))) (nB (eJ3 a b c d))) (nB (eJ4 a b c)))
def eLs (a b c d e : Nat) : Nat := Nat.mul 7 (Nat.add (Nat.add (Nat.add (Nat.add (Nat.mul 12 (nB e)) (Nat.mul 3 (nB d))) (Nat.mul 2 (nB c))) (Nat.mul 3 (nB b))) (Nat.mul 12 (nB a)))
def eM (a b c d e : Nat) : Nat := Nat.add (Nat.add (Nat.add (Nat.add (Nat.mul 4851 (nB a)) (Nat.mul 3087 (nB b))) (Nat.mul 4263 (nB c))) (Nat.mul 3087 (nB d))) (Nat.mul 4851 (nB e))
def eC (g0 g1 g2 g3 g4 k w0 w1 w2 w3 w4 d1 d2 d3 d4 b c d e : Nat) : Bool := Nat.beq g0 (nP k w0) && (Nat.beq g1 (nP k w1) && (Nat.beq g2 (nP k w2) && (Nat.beq g3 (nP k w3) && (Nat.beq g4 (nP k w4) && Nat.beq (nA (nA (nA (nP d1 b) (nP d2 c)) (nP d3 d)) (nP d4 e)) 0))))
def eW (g0 g1 g2 g3 g4 b c d e : Nat) : Bool := (Nat.beq g0 0 && (Nat.beq g1 0 && (Nat.beq g2 0 && (Nat.beq g3 0 && Nat.beq g4 0)))) || (eC g0 g1 g2 g3 g4 g0 1 0 0 0 0 1 0 0 0 b c d e || (eC g0 g1 g2 g3 g4 g4 0 0 0 0 1 0 0 1 0 b c d e || (eC g0 g1 g2 g3 g4 g0 1 1 1 1 1 1 2 3 4 b c d e || (eC g0 g1 g2 g3 g4 g0 1 18446744073709551615 1 18446744073709551615 1 1 18446744073709551614 3 18446744073709551612 b c d e || (eC g0 g1 g2 g3 g4 g0 1 2 4 8 16 1 4 12 32 b c d e || (eC g0 g1 g2 g3 g4 g0 1 18446744073709551614 4 18446744073709551608 16 1 18446744073709551612 12 18446744073709551584 b c d e || (eC g0 g1 g2 g3 g4 g4 16 8 4 2 1 8 8 6 4 b c d e || (eC g0 g1 g2 g3 g4 g4 16 18446744073709551608 4 18446744073709551614 1 8 18446744073709551608 6 18446744073709551612 b c d e))))))))
def eV (a b c d e p q : Nat) : Bool := eW (nS (nP p (nP 12 e)) (nP q (eJ0 c d e))) (nS (nP p (nP 18446744073709551613 d)) (nP q (eJ1 b c d e))) (nS (nP p (nP 2 c)) (nP q (eJ2 a b c d e))) (nS (nP p (nP 18446744073709551613 b)) (nP q (eJ3 a b c d))) (nS (nP p (nP 12 a)) (nP q (eJ4 a b c))) b c d e
def eT (a b c d e i j A : Nat) : Bool := (Nat.beq A 0 && eV a b c d e (nP 12 (nP i i)) (nP 2 j)) || (Nat.blt 27 A && crN (nB i) (nB j) A (eG a b c d e (nP 12 (nP i i)) (nP 2 j)) (eLs a b c d e) (eK a b c d e) (eM a b c d e))
def eU (a b c d e i j : Nat) : Bool := eT a b c d e i j (nB (nS (nP 4 (nP i (nP i i))) (nP j j)))
def eN (a b c d e : Nat) : Bool := eU a b c d e (eI a b c d e) (eJ a b c d e)
def e3T (a b c d e i j A : Nat) : Bool := Nat.beq A 0 || cr3 (nB i) (nB j) A (eG a b c d e (nP 12 (nP i i)) (nP 2 j)) (eLs a b c d e) (eK a b c d e) (eM a b c d e)
def e3U (a b c d e i j : Nat) : Bool := e3T a b c d e i j (nB (nS (nP 4 (nP i (nP i i))) (nP j j)))
def ex6 (a b c d e : Nat) : Bool := (Nat.beq a 4 && (Nat.beq b 1 && (Nat.beq c 18446744073709551613 && (Nat.beq d 18446744073709551612 && Nat.beq e 3)))) || ((Nat.beq a 5 && (Nat.beq b 5 && (Nat.beq c 18446744073709551609 && (Nat.beq d 18446744073709551614 && Nat.beq e 2)))) || ((Nat.beq a 6 && (Nat.beq b 3 && (Nat.beq c 6 && (Nat.beq d 7 && Nat.beq e 2)))) || (Nat.beq a 6 && (Nat.beq b 5 && (Nat.beq c 18446744073709551610 && (Nat.beq d 18446744073709551610 && Nat.beq e 4))))))
def e3N (a b c d e : Nat) : Bool := e3U a b c d e (eI a b c d e) (eJ a b c d e)
def eB (a b : Nat) : Bool := crL 15 (fun c => crL 15 (fun d => crL (Nat.succ (Nat.mul 2 a)) (fun e => (eN a b (nS c 7) (nS d 7) (nS e a) || ex6 a b (nS c 7) (nS d 7) (nS e a)) && e3N a b (nS c 7) (nS d 7) (nS e a))))
