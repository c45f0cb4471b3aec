/-! three quartics: 27 times the discriminant of x X + y Y + w W, by its numbers -/
def qJt (X Y : Nat → Int) (k : Nat) : Int :=
  if k = 0 then 72 * (X 2 * Y 4 + Y 2 * X 4) - 54 * (X 3 * Y 3) else if k = 1 then 9 * (X 2 * Y 3 + Y 2 * X 3) - 54 * (X 4 * Y 1 + Y 4 * X 1) else if k = 2 then 72 * (X 0 * Y 4 + Y 0 * X 4) + 9 * (X 1 * Y 3 + Y 1 * X 3) - 12 * (X 2 * Y 2) else if k = 3 then 9 * (X 1 * Y 2 + Y 1 * X 2) - 54 * (X 0 * Y 3 + Y 0 * X 3) else 72 * (X 0 * Y 2 + Y 0 * X 2) - 54 * (X 1 * Y 1)
def qJ3 (X Y W : Nat → Int) : Int := qJt X Y 0 * W 0 + qJt X Y 1 * W 1 + qJt X Y 2 * W 2 + qJt X Y 3 * W 3 + qJt X Y 4 * W 4
def qT600 (i200 j300 : Int) : Int := 4 * (i200 * (i200 * i200)) - 1 * (j300 * j300)
def qT510 (i200 i110 j300 j210 : Int) : Int := 12 * (i200 * (i200 * i110)) - 2 * (j300 * j210)
def qT501 (i200 i101 j300 j201 : Int) : Int := 12 * (i200 * (i200 * i101)) - 2 * (j300 * j201)
def qT420 (i200 i110 i020 j300 j210 j120 : Int) : Int := 12 * (i200 * (i200 * i020)) + 12 * (i200 * (i110 * i110)) - 2 * (j300 * j120) - 1 * (j210 * j210)
def qT411 (i200 i110 i101 i011 j300 j210 j201 j111 : Int) : Int := 12 * (i200 * (i200 * i011)) + 24 * (i200 * (i110 * i101)) - 2 * (j300 * j111) - 2 * (j210 * j201)
def qT402 (i200 i101 i002 j300 j201 j102 : Int) : Int := 12 * (i200 * (i200 * i002)) + 12 * (i200 * (i101 * i101)) - 2 * (j300 * j102) - 1 * (j201 * j201)
def qT330 (i200 i110 i020 j300 j210 j120 j030 : Int) : Int := 24 * (i200 * (i110 * i020)) + 4 * (i110 * (i110 * i110)) - 2 * (j300 * j030) - 2 * (j210 * j120)
def qT321 (i200 i110 i101 i020 i011 j300 j210 j201 j120 j021 j111 : Int) : Int := 24 * (i200 * (i110 * i011)) + 24 * (i200 * (i101 * i020)) + 12 * (i110 * (i110 * i101)) - 2 * (j300 * j021) - 2 * (j210 * j111) - 2 * (j201 * j120)
def qT312 (i200 i110 i101 i011 i002 j300 j210 j201 j102 j012 j111 : Int) : Int := 24 * (i200 * (i110 * i002)) + 24 * (i200 * (i101 * i011)) + 12 * (i110 * (i101 * i101)) - 2 * (j300 * j012) - 2 * (j210 * j102) - 2 * (j201 * j111)
def qT303 (i200 i101 i002 j300 j201 j102 j003 : Int) : Int := 24 * (i200 * (i101 * i002)) + 4 * (i101 * (i101 * i101)) - 2 * (j300 * j003) - 2 * (j201 * j102)
def qT240 (i200 i110 i020 j210 j120 j030 : Int) : Int := 12 * (i200 * (i020 * i020)) + 12 * (i110 * (i110 * i020)) - 2 * (j210 * j030) - 1 * (j120 * j120)
def qT231 (i200 i110 i101 i020 i011 j210 j201 j120 j030 j021 j111 : Int) : Int := 24 * (i200 * (i020 * i011)) + 12 * (i110 * (i110 * i011)) + 24 * (i110 * (i101 * i020)) - 2 * (j210 * j021) - 2 * (j201 * j030) - 2 * (j120 * j111)
def qT222 (i200 i110 i101 i020 i011 i002 j210 j201 j120 j102 j021 j012 j111 : Int) : Int := 24 * (i200 * (i020 * i002)) + 12 * (i200 * (i011 * i011)) + 12 * (i110 * (i110 * i002)) + 24 * (i110 * (i101 * i011)) + 12 * (i101 * (i101 * i020)) - 2 * (j210 * j012) - 2 * (j201 * j021) - 2 * (j120 * j102) - 1 * (j111 * j111)
def qT213 (i200 i110 i101 i011 i002 j210 j201 j102 j012 j003 j111 : Int) : Int := 24 * (i200 * (i011 * i002)) + 24 * (i110 * (i101 * i002)) + 12 * (i101 * (i101 * i011)) - 2 * (j210 * j003) - 2 * (j201 * j012) - 2 * (j111 * j102)
def qT204 (i200 i101 i002 j201 j102 j003 : Int) : Int := 12 * (i200 * (i002 * i002)) + 12 * (i101 * (i101 * i002)) - 2 * (j201 * j003) - 1 * (j102 * j102)
def qT150 (i110 i020 j120 j030 : Int) : Int := 12 * (i110 * (i020 * i020)) - 2 * (j120 * j030)
def qT141 (i110 i101 i020 i011 j120 j030 j021 j111 : Int) : Int := 24 * (i110 * (i020 * i011)) + 12 * (i101 * (i020 * i020)) - 2 * (j120 * j021) - 2 * (j111 * j030)
def qT132 (i110 i101 i020 i011 i002 j120 j102 j030 j021 j012 j111 : Int) : Int := 24 * (i110 * (i020 * i002)) + 12 * (i110 * (i011 * i011)) + 24 * (i101 * (i020 * i011)) - 2 * (j120 * j012) - 2 * (j102 * j030) - 2 * (j111 * j021)
def qT123 (i110 i101 i020 i011 i002 j120 j102 j021 j012 j003 j111 : Int) : Int := 24 * (i110 * (i011 * i002)) + 24 * (i101 * (i020 * i002)) + 12 * (i101 * (i011 * i011)) - 2 * (j120 * j003) - 2 * (j102 * j021) - 2 * (j111 * j012)
def qT114 (i110 i101 i011 i002 j102 j012 j003 j111 : Int) : Int := 12 * (i110 * (i002 * i002)) + 24 * (i101 * (i011 * i002)) - 2 * (j102 * j012) - 2 * (j111 * j003)
def qT105 (i101 i002 j102 j003 : Int) : Int := 12 * (i101 * (i002 * i002)) - 2 * (j102 * j003)
def qT060 (i020 j030 : Int) : Int := 4 * (i020 * (i020 * i020)) - 1 * (j030 * j030)
def qT051 (i020 i011 j030 j021 : Int) : Int := 12 * (i020 * (i020 * i011)) - 2 * (j030 * j021)
def qT042 (i020 i011 i002 j030 j021 j012 : Int) : Int := 12 * (i020 * (i020 * i002)) + 12 * (i020 * (i011 * i011)) - 2 * (j030 * j012) - 1 * (j021 * j021)
def qT033 (i020 i011 i002 j030 j021 j012 j003 : Int) : Int := 24 * (i020 * (i011 * i002)) + 4 * (i011 * (i011 * i011)) - 2 * (j030 * j003) - 2 * (j021 * j012)
def qT024 (i020 i011 i002 j021 j012 j003 : Int) : Int := 12 * (i020 * (i002 * i002)) + 12 * (i011 * (i011 * i002)) - 2 * (j021 * j003) - 1 * (j012 * j012)
def qT015 (i011 i002 j012 j003 : Int) : Int := 12 * (i011 * (i002 * i002)) - 2 * (j012 * j003)
def qT006 (i002 j003 : Int) : Int := 4 * (i002 * (i002 * i002)) - 1 * (j003 * j003)
def tT600 (X Y W : Nat → Int) : Int := qT600 (qI X) (qJ X)
def tT510 (X Y W : Nat → Int) : Int := qT510 (qI X) (qI1 X Y) (qJ X) (qJ1 X Y)
def tT501 (X Y W : Nat → Int) : Int := qT501 (qI X) (qI1 X W) (qJ X) (qJ1 X W)
def tT420 (X Y W : Nat → Int) : Int := qT420 (qI X) (qI1 X Y) (qI Y) (qJ X) (qJ1 X Y) (qJ1 Y X)
def tT411 (X Y W : Nat → Int) : Int := qT411 (qI X) (qI1 X Y) (qI1 X W) (qI1 Y W) (qJ X) (qJ1 X Y) (qJ1 X W) (qJ3 X Y W)
def tT402 (X Y W : Nat → Int) : Int := qT402 (qI X) (qI1 X W) (qI W) (qJ X) (qJ1 X W) (qJ1 W X)
def tT330 (X Y W : Nat → Int) : Int := qT330 (qI X) (qI1 X Y) (qI Y) (qJ X) (qJ1 X Y) (qJ1 Y X) (qJ Y)
def tT321 (X Y W : Nat → Int) : Int := qT321 (qI X) (qI1 X Y) (qI1 X W) (qI Y) (qI1 Y W) (qJ X) (qJ1 X Y) (qJ1 X W) (qJ1 Y X) (qJ1 Y W) (qJ3 X Y W)
def tT312 (X Y W : Nat → Int) : Int := qT312 (qI X) (qI1 X Y) (qI1 X W) (qI1 Y W) (qI W) (qJ X) (qJ1 X Y) (qJ1 X W) (qJ1 W X) (qJ1 W Y) (qJ3 X Y W)
def tT303 (X Y W : Nat → Int) : Int := qT303 (qI X) (qI1 X W) (qI W) (qJ X) (qJ1 X W) (qJ1 W X) (qJ W)
def tT240 (X Y W : Nat → Int) : Int := qT240 (qI X) (qI1 X Y) (qI Y) (qJ1 X Y) (qJ1 Y X) (qJ Y)
def tT231 (X Y W : Nat → Int) : Int := qT231 (qI X) (qI1 X Y) (qI1 X W) (qI Y) (qI1 Y W) (qJ1 X Y) (qJ1 X W) (qJ1 Y X) (qJ Y) (qJ1 Y W) (qJ3 X Y W)
def tT222 (X Y W : Nat → Int) : Int := qT222 (qI X) (qI1 X Y) (qI1 X W) (qI Y) (qI1 Y W) (qI W) (qJ1 X Y) (qJ1 X W) (qJ1 Y X) (qJ1 W X) (qJ1 Y W) (qJ1 W Y) (qJ3 X Y W)
def tT213 (X Y W : Nat → Int) : Int := qT213 (qI X) (qI1 X Y) (qI1 X W) (qI1 Y W) (qI W) (qJ1 X Y) (qJ1 X W) (qJ1 W X) (qJ1 W Y) (qJ W) (qJ3 X Y W)
def tT204 (X Y W : Nat → Int) : Int := qT204 (qI X) (qI1 X W) (qI W) (qJ1 X W) (qJ1 W X) (qJ W)
def tT150 (X Y W : Nat → Int) : Int := qT150 (qI1 X Y) (qI Y) (qJ1 Y X) (qJ Y)
def tT141 (X Y W : Nat → Int) : Int := qT141 (qI1 X Y) (qI1 X W) (qI Y) (qI1 Y W) (qJ1 Y X) (qJ Y) (qJ1 Y W) (qJ3 X Y W)
def tT132 (X Y W : Nat → Int) : Int := qT132 (qI1 X Y) (qI1 X W) (qI Y) (qI1 Y W) (qI W) (qJ1 Y X) (qJ1 W X) (qJ Y) (qJ1 Y W) (qJ1 W Y) (qJ3 X Y W)
def tT123 (X Y W : Nat → Int) : Int := qT123 (qI1 X Y) (qI1 X W) (qI Y) (qI1 Y W) (qI W) (qJ1 Y X) (qJ1 W X) (qJ1 Y W) (qJ1 W Y) (qJ W) (qJ3 X Y W)
def tT114 (X Y W : Nat → Int) : Int := qT114 (qI1 X Y) (qI1 X W) (qI1 Y W) (qI W) (qJ1 W X) (qJ1 W Y) (qJ W) (qJ3 X Y W)
def tT105 (X Y W : Nat → Int) : Int := qT105 (qI1 X W) (qI W) (qJ1 W X) (qJ W)
def tT060 (X Y W : Nat → Int) : Int := qT060 (qI Y) (qJ Y)
def tT051 (X Y W : Nat → Int) : Int := qT051 (qI Y) (qI1 Y W) (qJ Y) (qJ1 Y W)
def tT042 (X Y W : Nat → Int) : Int := qT042 (qI Y) (qI1 Y W) (qI W) (qJ Y) (qJ1 Y W) (qJ1 W Y)
def tT033 (X Y W : Nat → Int) : Int := qT033 (qI Y) (qI1 Y W) (qI W) (qJ Y) (qJ1 Y W) (qJ1 W Y) (qJ W)
def tT024 (X Y W : Nat → Int) : Int := qT024 (qI Y) (qI1 Y W) (qI W) (qJ1 Y W) (qJ1 W Y) (qJ W)
def tT015 (X Y W : Nat → Int) : Int := qT015 (qI1 Y W) (qI W) (qJ1 W Y) (qJ W)
def tT006 (X Y W : Nat → Int) : Int := qT006 (qI W) (qJ W)
theorem qI_net (X Y W : Nat → Int) (x y w : Int) : qI (fun k => x * X k + y * Y k + w * W k) = x * x * qI X + x * y * qI1 X Y + x * w * qI1 X W + y * y * qI Y + y * w * qI1 Y W + w * w * qI W := by
  unfold qI qI1
  grind
theorem qJ_net (X Y W : Nat → Int) (x y w : Int) : qJ (fun k => x * X k + y * Y k + w * W k) = x * x * x * qJ X + x * x * y * qJ1 X Y + x * x * w * qJ1 X W + x * y * y * qJ1 Y X + x * w * w * qJ1 W X + y * y * y * qJ Y + y * y * w * qJ1 Y W + y * w * w * qJ1 W Y + w * w * w * qJ W + x * y * w * qJ3 X Y W := by
  unfold qJ qJ1 qJ3 qJd qJt
  simp only [if_true, if_false, Nat.reduceEqDiff]
  grind
theorem qD_net (X Y W : Nat → Int) (x y w : Int) : qD (fun k => x * X k + y * Y k + w * W k) = x * x * x * x * x * x * tT600 X Y W + x * x * x * x * x * y * tT510 X Y W + x * x * x * x * x * w * tT501 X Y W + x * x * x * x * y * y * tT420 X Y W + x * x * x * x * y * w * tT411 X Y W + x * x * x * x * w * w * tT402 X Y W + x * x * x * y * y * y * tT330 X Y W + x * x * x * y * y * w * tT321 X Y W + x * x * x * y * w * w * tT312 X Y W + x * x * x * w * w * w * tT303 X Y W + x * x * y * y * y * y * tT240 X Y W + x * x * y * y * y * w * tT231 X Y W + x * x * y * y * w * w * tT222 X Y W + x * x * y * w * w * w * tT213 X Y W + x * x * w * w * w * w * tT204 X Y W + x * y * y * y * y * y * tT150 X Y W + x * y * y * y * y * w * tT141 X Y W + x * y * y * y * w * w * tT132 X Y W + x * y * y * w * w * w * tT123 X Y W + x * y * w * w * w * w * tT114 X Y W + x * w * w * w * w * w * tT105 X Y W + y * y * y * y * y * y * tT060 X Y W + y * y * y * y * y * w * tT051 X Y W + y * y * y * y * w * w * tT042 X Y W + y * y * y * w * w * w * tT033 X Y W + y * y * w * w * w * w * tT024 X Y W + y * w * w * w * w * w * tT015 X Y W + w * w * w * w * w * w * tT006 X Y W := by
  unfold qD
  rw [qI_net, qJ_net]
  unfold tT600 tT510 tT501 tT420 tT411 tT402 tT330 tT321 tT312 tT303 tT240 tT231 tT222 tT213 tT204 tT150 tT141 tT132 tT123 tT114 tT105 tT060 tT051 tT042 tT033 tT024 tT015 tT006
  unfold qT600 qT510 qT501 qT420 qT411 qT402 qT330 qT321 qT312 qT303 qT240 qT231 qT222 qT213 qT204 qT150 qT141 qT132 qT123 qT114 qT105 qT060 qT051 qT042 qT033 qT024 qT015 qT006
  generalize qI X = i200
  generalize qI1 X Y = i110
  generalize qI1 X W = i101
  generalize qI Y = i020
  generalize qI1 Y W = i011
  generalize qI W = i002
  generalize qJ X = j300
  generalize qJ1 X Y = j210
  generalize qJ1 X W = j201
  generalize qJ1 Y X = j120
  generalize qJ1 W X = j102
  generalize qJ Y = j030
  generalize qJ1 Y W = j021
  generalize qJ1 W Y = j012
  generalize qJ W = j003
  generalize qJ3 X Y W = j111
  grind
