/-! every block of the box -/
theorem eB00 : eB 0 0 = true := by decide +kernel
theorem eB01 : eB 0 1 = true := by decide +kernel
theorem eB02 : eB 0 2 = true := by decide +kernel
theorem eB03 : eB 0 3 = true := by decide +kernel
theorem eB04 : eB 0 4 = true := by decide +kernel
theorem eB05 : eB 0 5 = true := by decide +kernel
theorem eB06 : eB 0 6 = true := by decide +kernel
theorem eB07 : eB 0 7 = true := by decide +kernel
theorem eB10 : eB 1 0 = true := by decide +kernel
theorem eB11 : eB 1 1 = true := by decide +kernel
theorem eB12 : eB 1 2 = true := by decide +kernel
theorem eB13 : eB 1 3 = true := by decide +kernel
theorem eB14 : eB 1 4 = true := by decide +kernel
theorem eB15 : eB 1 5 = true := by decide +kernel
theorem eB16 : eB 1 6 = true := by decide +kernel
theorem eB17 : eB 1 7 = true := by decide +kernel
theorem eB20 : eB 2 0 = true := by decide +kernel
theorem eB21 : eB 2 1 = true := by decide +kernel
theorem eB22 : eB 2 2 = true := by decide +kernel
theorem eB23 : eB 2 3 = true := by decide +kernel
theorem eB24 : eB 2 4 = true := by decide +kernel
theorem eB25 : eB 2 5 = true := by decide +kernel
theorem eB26 : eB 2 6 = true := by decide +kernel
theorem eB27 : eB 2 7 = true := by decide +kernel
theorem eB30 : eB 3 0 = true := by decide +kernel
theorem eB31 : eB 3 1 = true := by decide +kernel
theorem eB32 : eB 3 2 = true := by decide +kernel
theorem eB33 : eB 3 3 = true := by decide +kernel
theorem eB34 : eB 3 4 = true := by decide +kernel
theorem eB35 : eB 3 5 = true := by decide +kernel
theorem eB36 : eB 3 6 = true := by decide +kernel
theorem eB37 : eB 3 7 = true := by decide +kernel
theorem eB40 : eB 4 0 = true := by decide +kernel
theorem eB41 : eB 4 1 = true := by decide +kernel
theorem eB42 : eB 4 2 = true := by decide +kernel
theorem eB43 : eB 4 3 = true := by decide +kernel
theorem eB44 : eB 4 4 = true := by decide +kernel
theorem eB45 : eB 4 5 = true := by decide +kernel
theorem eB46 : eB 4 6 = true := by decide +kernel
theorem eB47 : eB 4 7 = true := by decide +kernel
theorem eB50 : eB 5 0 = true := by decide +kernel
theorem eB51 : eB 5 1 = true := by decide +kernel
theorem eB52 : eB 5 2 = true := by decide +kernel
theorem eB53 : eB 5 3 = true := by decide +kernel
theorem eB54 : eB 5 4 = true := by decide +kernel
theorem eB55 : eB 5 5 = true := by decide +kernel
theorem eB56 : eB 5 6 = true := by decide +kernel
theorem eB57 : eB 5 7 = true := by decide +kernel
theorem eB60 : eB 6 0 = true := by decide +kernel
theorem eB61 : eB 6 1 = true := by decide +kernel
theorem eB62 : eB 6 2 = true := by decide +kernel
theorem eB63 : eB 6 3 = true := by decide +kernel
theorem eB64 : eB 6 4 = true := by decide +kernel
theorem eB65 : eB 6 5 = true := by decide +kernel
theorem eB66 : eB 6 6 = true := by decide +kernel
theorem eB67 : eB 6 7 = true := by decide +kernel
theorem eB70 : eB 7 0 = true := by decide +kernel
theorem eB71 : eB 7 1 = true := by decide +kernel
theorem eB72 : eB 7 2 = true := by decide +kernel
theorem eB73 : eB 7 3 = true := by decide +kernel
theorem eB74 : eB 7 4 = true := by decide +kernel
theorem eB75 : eB 7 5 = true := by decide +kernel
theorem eB76 : eB 7 6 = true := by decide +kernel
theorem eB77 : eB 7 7 = true := by decide +kernel
theorem eB_all (a b : Nat) (ha : a ≤ 7) (hb : b ≤ 7) : eB a b = true := by
  have h : (a = 0 ∨ a = 1 ∨ a = 2 ∨ a = 3 ∨ a = 4 ∨ a = 5 ∨ a = 6 ∨ a = 7) := by omega
  have g : (b = 0 ∨ b = 1 ∨ b = 2 ∨ b = 3 ∨ b = 4 ∨ b = 5 ∨ b = 6 ∨ b = 7) := by omega
  rcases h with h | h | h | h | h | h | h | h <;> rw [h]
  · rcases g with g | g | g | g | g | g | g | g <;> rw [g]
    · exact eB00
    · exact eB01
    · exact eB02
    · exact eB03
    · exact eB04
    · exact eB05
    · exact eB06
    · exact eB07
  · rcases g with g | g | g | g | g | g | g | g <;> rw [g]
    · exact eB10
    · exact eB11
    · exact eB12
    · exact eB13
    · exact eB14
    · exact eB15
    · exact eB16
    · exact eB17
  · rcases g with g | g | g | g | g | g | g | g <;> rw [g]
    · exact eB20
    · exact eB21
    · exact eB22
    · exact eB23
    · exact eB24
    · exact eB25
    · exact eB26
    · exact eB27
  · rcases g with g | g | g | g | g | g | g | g <;> rw [g]
    · exact eB30
    · exact eB31
    · exact eB32
    · exact eB33
    · exact eB34
    · exact eB35
    · exact eB36
    · exact eB37
  · rcases g with g | g | g | g | g | g | g | g <;> rw [g]
    · exact eB40
    · exact eB41
    · exact eB42
    · exact eB43
    · exact eB44
    · exact eB45
    · exact eB46
    · exact eB47
  · rcases g with g | g | g | g | g | g | g | g <;> rw [g]
    · exact eB50
    · exact eB51
    · exact eB52
    · exact eB53
    · exact eB54
    · exact eB55
    · exact eB56
    · exact eB57
  · rcases g with g | g | g | g | g | g | g | g <;> rw [g]
    · exact eB60
    · exact eB61
    · exact eB62
    · exact eB63
    · exact eB64
    · exact eB65
    · exact eB66
    · exact eB67
  · rcases g with g | g | g | g | g | g | g | g <;> rw [g]
    · exact eB70
    · exact eB71
    · exact eB72
    · exact eB73
    · exact eB74
    · exact eB75
    · exact eB76
    · exact eB77
