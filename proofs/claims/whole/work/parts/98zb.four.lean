/-! the four quartics: every partner of the box, by the kernel -/
def v5 (a b c d e : Int) (k : Nat) : Int := Nat.rec a (fun k _ => Nat.rec b (fun k _ => Nat.rec c (fun k _ => Nat.rec d (fun _ _ => e) k) k) k) k
def dz (n : Nat) : Int := bif Nat.ble n 9223372036854775808 then Int.ofNat n else Int.negSucc (Nat.sub 18446744073709551615 n)
def kpX (G0 G1 G2 G3 G4 : Int) : Int := (4 * G0 * G2 - G1 * G1) * (5 * (G1 * G1) - 4 * G0 * G2) - 32 * (G0 * G0) * (G1 * G3 - 2 * (G0 * G4))
def lf3 (X Z : Nat → Int) (N : Nat) (G0 : Int) : Bool := Nat.blt 0 (Nat.mod (Int.natAbs (kpX G0 (qG X Z 1) (qG X Z 2) (qG X Z 3) (qG X Z 4))) N)
def eI1 (a b c d e u v w x y : Nat) : Nat := nA (nS (nP 12 (nA (nP a y) (nP u e))) (nP 3 (nA (nP b x) (nP v d)))) (nP 2 (nP c w))
def eJ5 (a b c d e u v w x y : Nat) : Nat := nA (nA (nA (nA (nP (eJ0 c d e) u) (nP (eJ1 b c d e) v)) (nP (eJ2 a b c d e) w)) (nP (eJ3 a b c d) x)) (nP (eJ4 a b c) y)
def eG2 (i j i1 i2 j1 j2 : Nat) : Nat := nS (nS (nA (nP 12 (nP i (nP i i2))) (nP 12 (nP i (nP i1 i1)))) (nP 2 (nP j j2))) (nP j1 j1)
def g2c (a b c d e u v w x y : Nat) : Nat := eG2 (eI a b c d e) (eJ a b c d e) (eI1 a b c d e u v w x y) (eI u v w x y) (eJ5 a b c d e u v w x y) (eJ5 u v w x y a b c d e)
def xE (q0 q1 q2 q3 q4 r1 r2 r3 gst m s0 : Nat) (lf : Nat → Nat → Nat → Nat → Nat → Bool) : Bool :=
  crL 15 (fun k1 => (fun z1 => (fun s1 => Nat.ble (Nat.add (nB s1) r1) gst || crL 15 (fun k2 => (fun z2 => (fun s2 => Nat.ble (Nat.add (nB s2) r2) gst || crL 15 (fun k3 => (fun z3 => (fun s3 => Nat.ble (Nat.add (nB s3) r3) gst || crL 15 (fun k4 => (fun z4 => (fun s4 => Nat.ble (nB s4) gst || (Nat.blt 0 (Nat.mod (nB s4) m) || lf z1 z2 z3 z4 s4)) (nA s3 (nP q4 z4))) (nS k4 7))) (nA s2 (nP q3 z3))) (nS k3 7))) (nA s1 (nP q2 z2))) (nS k2 7))) (nA s0 (nP q1 z1))) (nS k1 7))
def xF (a b c d e q0 q1 q2 q3 q4 r1 r2 r3 gst m g4 h N k : Nat) (X : Nat → Int) (G0 : Int) : Bool :=
  (fun z0 => xE q0 q1 q2 q3 q4 r1 r2 r3 gst m (nP q0 z0) (fun z1 z2 z3 z4 s => Nat.blt 0 (Nat.mod (nB (nS (nP g4 (g2c a b c d e z4 z3 z2 z1 z0)) (nP s s))) h) || lf3 X (v5 (dz z4) (dz z3) (dz z2) (dz z1) (dz z0)) N G0)) (nS k 7)
def xf1 (k : Nat) : Bool := xF 4 1 18446744073709551613 18446744073709551612 3 8127702 6115986 4601772 3462588 2604960 74685240 42472836 18234720 76955101 1242 18446744073709549132 3085128 175576382669741495137727145836544 k (v5 4 1 (-3) (-4) 3) (-621)
theorem xf1_0 : xf1 0 = true := by decide +kernel
theorem xf1_1 : xf1 1 = true := by decide +kernel
theorem xf1_2 : xf1 2 = true := by decide +kernel
theorem xf1_3 : xf1 3 = true := by decide +kernel
theorem xf1_4 : xf1 4 = true := by decide +kernel
theorem xf1_5 : xf1 5 = true := by decide +kernel
theorem xf1_6 : xf1 6 = true := by decide +kernel
theorem xf1_7 : xf1 7 = true := by decide +kernel
theorem xf1_8 : xf1 8 = true := by decide +kernel
theorem xf1_9 : xf1 9 = true := by decide +kernel
theorem xf1_10 : xf1 10 = true := by decide +kernel
theorem xf1_11 : xf1 11 = true := by decide +kernel
theorem xf1_12 : xf1 12 = true := by decide +kernel
theorem xf1_13 : xf1 13 = true := by decide +kernel
theorem xf1_14 : xf1 14 = true := by decide +kernel
def xf2 (k : Nat) : Bool := xF 5 5 18446744073709551609 18446744073709551614 2 18446744073702190876 18446744073704949736 18446744073706671256 18446744073707754496 18446744073708426256 40619880 20457360 7877520 118798125 1080 21600 23328000 1003863666409090848804726374400000 k (v5 5 5 (-7) (-2) 2) 5400
theorem xf2_0 : xf2 0 = true := by decide +kernel
theorem xf2_1 : xf2 1 = true := by decide +kernel
theorem xf2_2 : xf2 2 = true := by decide +kernel
theorem xf2_3 : xf2 3 = true := by decide +kernel
theorem xf2_4 : xf2 4 = true := by decide +kernel
theorem xf2_5 : xf2 5 = true := by decide +kernel
theorem xf2_6 : xf2 6 = true := by decide +kernel
theorem xf2_7 : xf2 7 = true := by decide +kernel
theorem xf2_8 : xf2 8 = true := by decide +kernel
theorem xf2_9 : xf2 9 = true := by decide +kernel
theorem xf2_10 : xf2 10 = true := by decide +kernel
theorem xf2_11 : xf2 11 = true := by decide +kernel
theorem xf2_12 : xf2 12 = true := by decide +kernel
theorem xf2_13 : xf2 13 = true := by decide +kernel
theorem xf2_14 : xf2 14 = true := by decide +kernel
def xf3 (k : Nat) : Bool := xF 6 3 6 7 2 23750820 18446744073697383148 6219828 18446744073706376092 1612548 77055300 33516504 11287836 294628648 1944 18446744073709411648 272097792 37937373208185859539884984116445184 k (v5 6 3 6 7 2) (-34992)
theorem xf3_0 : xf3 0 = true := by decide +kernel
theorem xf3_1 : xf3 1 = true := by decide +kernel
theorem xf3_2 : xf3 2 = true := by decide +kernel
theorem xf3_3 : xf3 3 = true := by decide +kernel
theorem xf3_4 : xf3 4 = true := by decide +kernel
theorem xf3_5 : xf3 5 = true := by decide +kernel
theorem xf3_6 : xf3 6 = true := by decide +kernel
theorem xf3_7 : xf3 7 = true := by decide +kernel
theorem xf3_8 : xf3 8 = true := by decide +kernel
theorem xf3_9 : xf3 9 = true := by decide +kernel
theorem xf3_10 : xf3 10 = true := by decide +kernel
theorem xf3_11 : xf3 11 = true := by decide +kernel
theorem xf3_12 : xf3 12 = true := by decide +kernel
theorem xf3_13 : xf3 13 = true := by decide +kernel
theorem xf3_14 : xf3 14 = true := by decide +kernel
def xf4 (k : Nat) : Bool := xF 6 5 18446744073709551610 18446744073709551610 4 38001312 25555824 17169408 11547360 7744896 255231648 135045792 54214272 447485989 3888 18446744073709458304 362797056 202332657110324584212719915287707648 k (v5 6 5 (-6) (-6) 4) (-23328)
theorem xf4_0 : xf4 0 = true := by decide +kernel
theorem xf4_1 : xf4 1 = true := by decide +kernel
theorem xf4_2 : xf4 2 = true := by decide +kernel
theorem xf4_3 : xf4 3 = true := by decide +kernel
theorem xf4_4 : xf4 4 = true := by decide +kernel
theorem xf4_5 : xf4 5 = true := by decide +kernel
theorem xf4_6 : xf4 6 = true := by decide +kernel
theorem xf4_7 : xf4 7 = true := by decide +kernel
theorem xf4_8 : xf4 8 = true := by decide +kernel
theorem xf4_9 : xf4 9 = true := by decide +kernel
theorem xf4_10 : xf4 10 = true := by decide +kernel
theorem xf4_11 : xf4 11 = true := by decide +kernel
theorem xf4_12 : xf4 12 = true := by decide +kernel
theorem xf4_13 : xf4 13 = true := by decide +kernel
theorem xf4_14 : xf4 14 = true := by decide +kernel
