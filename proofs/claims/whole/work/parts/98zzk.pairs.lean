/-! two quartics that are met twice: their sum or difference passes the test, or the pencil is no square -/
def vt (I J A g i1 j1 j2 : Nat) : Bool := Nat.blt 0 A && (full2 A g (crB2 I J i1 j1 j2) (crB3 I J i1 j1 j2) (crB4 I i1 j1 j2) (Nat.div A 27) && (Nat.blt (crB3 I J i1 j1 j2) 115964116992 && Nat.blt (Nat.add (Nat.mul 12 (Nat.mul 784 (Nat.mul 784 i1))) (Nat.mul 2 (Nat.mul 46991 j2))) 28991029248))
def vK (V : Nat → Int) : Bool := vt (qI V).natAbs (qJ V).natAbs (qD V).natAbs (gs V) (is1 V) (js1 V) (js2 V)
def evt1 (a b c d e i j : Nat) : Bool := vt (nB i) (nB j) (nB (nS (nP 4 (nP i (nP i i))) (nP j j))) (eG a b c d e (nP 12 (nP i i)) (nP 2 j)) (eLs a b c d e) (eK a b c d e) (eM a b c d e)
def evt (a b c d e : Nat) : Bool := evt1 a b c d e (eI a b c d e) (eJ a b c d e)
def eG3 (i j i1 i2 j1 j2 j3 : Nat) : Nat := nS (nS (nA (nP 24 (nP i (nP i1 i2))) (nP 4 (nP i1 (nP i1 i1)))) (nP 2 (nP j j3))) (nP 2 (nP j1 j2))
def eG4 (i i1 i2 j1 j2 j3 : Nat) : Nat := nS (nS (nA (nP 12 (nP i2 (nP i2 i))) (nP 12 (nP i2 (nP i1 i1)))) (nP 2 (nP j3 j1))) (nP j2 j2)
def pk3 (a b c d e u v w x y : Nat) : Bool := evt (nA a u) (nA b v) (nA c w) (nA d x) (nA e y) || evt (nS a u) (nS b v) (nS c w) (nS d x) (nS e y)
def pk2 (a b c d e u v w x y g2 g3 g4 : Nat) : Bool := Nat.beq g2 0 || (bif Nat.beq (nP g3 g3) (nP 4 (nP g2 g4)) then pk3 a b c d e u v w x y else true)
def pk1 (a b c d e u v w x y i i1 i2 j j1 j2 j3 : Nat) : Bool := pk2 a b c d e u v w x y (eG2 i j i1 i2 j1 j2) (eG3 i j i1 i2 j1 j2 j3) (eG4 i i1 i2 j1 j2 j3)
def pk (a b c d e u v w x y : Nat) : Bool := pk1 a b c d e u v w x y (eI a b c d e) (eI1 a b c d e u v w x y) (eI u v w x y) (eJ a b c d e) (eJ5 a b c d e u v w x y) (eJ5 u v w x y a b c d e) (eJ u v w x y)
def pka (a b c d e u v w x y : Nat) : Bool := pk a b c d e u v w x y && pk a b c d e u (nS 0 v) w (nS 0 x) y
def pkn (a b c d e u v w x y : Nat) : Bool := pka a b c d e u v w x y && pka a b c d e (nS 0 u) (nS 0 v) (nS 0 w) (nS 0 x) (nS 0 y)
def pkr (a b c d e u v w x y : Nat) : Bool := pkn a b c d e u v w x y && pkn a b c d e y x w v u
def zc0 (n : Nat) : Nat := Nat.div n 65536
def zc1 (n : Nat) : Nat := Nat.mod (Nat.div n 4096) 16
def zc2 (n : Nat) : Nat := nS (Nat.mod (Nat.div n 256) 16) 7
def zc3 (n : Nat) : Nat := nS (Nat.mod (Nat.div n 16) 16) 7
def zc4 (n : Nat) : Nat := nS (Nat.mod n 16) 7
def pkP (n m : Nat) : Bool := pkr (zc0 n) (zc1 n) (zc2 n) (zc3 n) (zc4 n) (zc0 m) (zc1 m) (zc2 m) (zc3 m) (zc4 m)
def pkB (n : Nat) : Bool := qall (fun m => pkP n m) qzL
theorem pkB119 : pkB 119 = true := by decide +kernel
theorem pkB375 : pkB 375 = true := by decide +kernel
theorem pkB631 : pkB 631 = true := by decide +kernel
theorem pkB887 : pkB 887 = true := by decide +kernel
theorem pkB1143 : pkB 1143 = true := by decide +kernel
theorem pkB1399 : pkB 1399 = true := by decide +kernel
theorem pkB1655 : pkB 1655 = true := by decide +kernel
theorem pkB1799 : pkB 1799 = true := by decide +kernel
theorem pkB1815 : pkB 1815 = true := by decide +kernel
theorem pkB1831 : pkB 1831 = true := by decide +kernel
theorem pkB1847 : pkB 1847 = true := by decide +kernel
theorem pkB1863 : pkB 1863 = true := by decide +kernel
theorem pkB1879 : pkB 1879 = true := by decide +kernel
theorem pkB1895 : pkB 1895 = true := by decide +kernel
theorem pkB1911 : pkB 1911 = true := by decide +kernel
theorem pkB1927 : pkB 1927 = true := by decide +kernel
theorem pkB1943 : pkB 1943 = true := by decide +kernel
theorem pkB1959 : pkB 1959 = true := by decide +kernel
theorem pkB1975 : pkB 1975 = true := by decide +kernel
theorem pkB1991 : pkB 1991 = true := by decide +kernel
theorem pkB2007 : pkB 2007 = true := by decide +kernel
theorem pkB2023 : pkB 2023 = true := by decide +kernel
theorem pkB2167 : pkB 2167 = true := by decide +kernel
theorem pkB2423 : pkB 2423 = true := by decide +kernel
theorem pkB2679 : pkB 2679 = true := by decide +kernel
theorem pkB2935 : pkB 2935 = true := by decide +kernel
theorem pkB3191 : pkB 3191 = true := by decide +kernel
theorem pkB3447 : pkB 3447 = true := by decide +kernel
theorem pkB3703 : pkB 3703 = true := by decide +kernel
theorem pkB6007 : pkB 6007 = true := by decide +kernel
theorem pkB10103 : pkB 10103 = true := by decide +kernel
theorem pkB14199 : pkB 14199 = true := by decide +kernel
theorem pkB18295 : pkB 18295 = true := by decide +kernel
theorem pkB22391 : pkB 22391 = true := by decide +kernel
theorem pkB26487 : pkB 26487 = true := by decide +kernel
theorem pkB30583 : pkB 30583 = true := by decide +kernel
theorem pkB66936 : pkB 66936 = true := by decide +kernel
theorem pkB67447 : pkB 67447 = true := by decide +kernel
theorem pkB67960 : pkB 67960 = true := by decide +kernel
theorem pkB71543 : pkB 71543 = true := by decide +kernel
theorem pkB75352 : pkB 75352 = true := by decide +kernel
theorem pkB75606 : pkB 75606 = true := by decide +kernel
theorem pkB75639 : pkB 75639 = true := by decide +kernel
theorem pkB75895 : pkB 75895 = true := by decide +kernel
theorem pkB76440 : pkB 76440 = true := by decide +kernel
theorem pkB79735 : pkB 79735 = true := by decide +kernel
theorem pkB80519 : pkB 80519 = true := by decide +kernel
theorem pkB83831 : pkB 83831 = true := by decide +kernel
theorem pkB84280 : pkB 84280 = true := by decide +kernel
theorem pkB84855 : pkB 84855 = true := by decide +kernel
theorem pkB85432 : pkB 85432 = true := by decide +kernel
theorem pkB87927 : pkB 87927 = true := by decide +kernel
theorem pkB92023 : pkB 92023 = true := by decide +kernel
theorem pkB93720 : pkB 93720 = true := by decide +kernel
theorem pkB96119 : pkB 96119 = true := by decide +kernel
theorem pkB131961 : pkB 131961 = true := by decide +kernel
theorem pkB132983 : pkB 132983 = true := by decide +kernel
theorem pkB134009 : pkB 134009 = true := by decide +kernel
theorem pkB137079 : pkB 137079 = true := by decide +kernel
theorem pkB141175 : pkB 141175 = true := by decide +kernel
theorem pkB145271 : pkB 145271 = true := by decide +kernel
theorem pkB148793 : pkB 148793 = true := by decide +kernel
theorem pkB149301 : pkB 149301 = true := by decide +kernel
theorem pkB149367 : pkB 149367 = true := by decide +kernel
theorem pkB149879 : pkB 149879 = true := by decide +kernel
theorem pkB150969 : pkB 150969 = true := by decide +kernel
theorem pkB153463 : pkB 153463 = true := by decide +kernel
theorem pkB154214 : pkB 154214 = true := by decide +kernel
theorem pkB157559 : pkB 157559 = true := by decide +kernel
theorem pkB159127 : pkB 159127 = true := by decide +kernel
theorem pkB161655 : pkB 161655 = true := by decide +kernel
theorem pkB196986 : pkB 196986 = true := by decide +kernel
theorem pkB198519 : pkB 198519 = true := by decide +kernel
theorem pkB200058 : pkB 200058 = true := by decide +kernel
theorem pkB202615 : pkB 202615 = true := by decide +kernel
theorem pkB206711 : pkB 206711 = true := by decide +kernel
theorem pkB210807 : pkB 210807 = true := by decide +kernel
theorem pkB214903 : pkB 214903 = true := by decide +kernel
theorem pkB218999 : pkB 218999 = true := by decide +kernel
theorem pkB222234 : pkB 222234 = true := by decide +kernel
theorem pkB222996 : pkB 222996 = true := by decide +kernel
theorem pkB223095 : pkB 223095 = true := by decide +kernel
theorem pkB223863 : pkB 223863 = true := by decide +kernel
theorem pkB227191 : pkB 227191 = true := by decide +kernel
theorem pkB227909 : pkB 227909 = true := by decide +kernel
theorem pkB263032 : pkB 263032 = true := by decide +kernel
theorem pkB264055 : pkB 264055 = true := by decide +kernel
theorem pkB265080 : pkB 265080 = true := by decide +kernel
theorem pkB268151 : pkB 268151 = true := by decide +kernel
theorem pkB272247 : pkB 272247 = true := by decide +kernel
theorem pkB276343 : pkB 276343 = true := by decide +kernel
theorem pkB278587 : pkB 278587 = true := by decide +kernel
theorem pkB279640 : pkB 279640 = true := by decide +kernel
theorem pkB280439 : pkB 280439 = true := by decide +kernel
theorem pkB280695 : pkB 280695 = true := by decide +kernel
theorem pkB281752 : pkB 281752 = true := by decide +kernel
theorem pkB284535 : pkB 284535 = true := by decide +kernel
theorem pkB288631 : pkB 288631 = true := by decide +kernel
theorem pkB292727 : pkB 292727 = true := by decide +kernel
theorem pkB329591 : pkB 329591 = true := by decide +kernel
theorem pkB333687 : pkB 333687 = true := by decide +kernel
theorem pkB337783 : pkB 337783 = true := by decide +kernel
theorem pkB341879 : pkB 341879 = true := by decide +kernel
theorem pkB345975 : pkB 345975 = true := by decide +kernel
theorem pkB350071 : pkB 350071 = true := by decide +kernel
theorem pkB354167 : pkB 354167 = true := by decide +kernel
theorem pkB358263 : pkB 358263 = true := by decide +kernel
theorem pkB395127 : pkB 395127 = true := by decide +kernel
theorem pkB399223 : pkB 399223 = true := by decide +kernel
theorem pkB403319 : pkB 403319 = true := by decide +kernel
theorem pkB407415 : pkB 407415 = true := by decide +kernel
theorem pkB411511 : pkB 411511 = true := by decide +kernel
theorem pkB415607 : pkB 415607 = true := by decide +kernel
theorem pkB419703 : pkB 419703 = true := by decide +kernel
theorem pkB423799 : pkB 423799 = true := by decide +kernel
theorem pkB460663 : pkB 460663 = true := by decide +kernel
theorem pkB464759 : pkB 464759 = true := by decide +kernel
theorem pkB468855 : pkB 468855 = true := by decide +kernel
theorem pkB472951 : pkB 472951 = true := by decide +kernel
theorem pkB477047 : pkB 477047 = true := by decide +kernel
theorem pkB481143 : pkB 481143 = true := by decide +kernel
theorem pkB485239 : pkB 485239 = true := by decide +kernel
theorem pkB489335 : pkB 489335 = true := by decide +kernel
theorem pkB_all : qall pkB qzL = true := by
  unfold qzL
  simp only [qall, pkB119, pkB375, pkB631, pkB887, pkB1143, pkB1399, pkB1655, pkB1799, pkB1815, pkB1831, pkB1847, pkB1863, pkB1879, pkB1895, pkB1911, pkB1927, pkB1943, pkB1959, pkB1975, pkB1991, pkB2007, pkB2023, pkB2167, pkB2423, pkB2679, pkB2935, pkB3191, pkB3447, pkB3703, pkB6007, pkB10103, pkB14199, pkB18295, pkB22391, pkB26487, pkB30583, pkB66936, pkB67447, pkB67960, pkB71543, pkB75352, pkB75606, pkB75639, pkB75895, pkB76440, pkB79735, pkB80519, pkB83831, pkB84280, pkB84855, pkB85432, pkB87927, pkB92023, pkB93720, pkB96119, pkB131961, pkB132983, pkB134009, pkB137079, pkB141175, pkB145271, pkB148793, pkB149301, pkB149367, pkB149879, pkB150969, pkB153463, pkB154214, pkB157559, pkB159127, pkB161655, pkB196986, pkB198519, pkB200058, pkB202615, pkB206711, pkB210807, pkB214903, pkB218999, pkB222234, pkB222996, pkB223095, pkB223863, pkB227191, pkB227909, pkB263032, pkB264055, pkB265080, pkB268151, pkB272247, pkB276343, pkB278587, pkB279640, pkB280439, pkB280695, pkB281752, pkB284535, pkB288631, pkB292727, pkB329591, pkB333687, pkB337783, pkB341879, pkB345975, pkB350071, pkB354167, pkB358263, pkB395127, pkB399223, pkB403319, pkB407415, pkB411511, pkB415607, pkB419703, pkB423799, pkB460663, pkB464759, pkB468855, pkB472951, pkB477047, pkB481143, pkB485239, pkB489335, Bool.and_self]
