theorem bz {n : Nat} {z : Int} (h : (2 ^ n : Int) ∣ z) : BitVec.ofInt n z = 0 := by
  apply BitVec.eq_of_toInt_eq
  rw [BitVec.toInt_ofInt]
  obtain ⟨t, ht⟩ := h
  rw [ht]
  have : ((2 ^ n : Nat) : Int) = 2 ^ n := by simp
  rw [← this, Int.mul_bmod_right]
  simp
theorem bz' {n : Nat} {z : Int} (h : BitVec.ofInt n z = 0) : (2 ^ n : Int) ∣ z := by
  have h2 := congrArg BitVec.toInt h
  rw [BitVec.toInt_ofInt] at h2
  have h3 : z.bmod (2 ^ n) = 0 := by rw [h2]; simp
  have := Int.dvd_of_bmod_eq_zero h3
  have e : ((2 ^ n : Nat) : Int) = 2 ^ n := by simp
  rw [e] at this
  exact this
theorem badd {n : Nat} (x y : Int) : BitVec.ofInt n (x + y) = BitVec.ofInt n x + BitVec.ofInt n y := BitVec.ofInt_add ..
theorem bmul {n : Nat} (x y : Int) : BitVec.ofInt n (x * y) = BitVec.ofInt n x * BitVec.ofInt n y := BitVec.ofInt_mul ..
theorem bneg {n : Nat} (x : Int) : BitVec.ofInt n (-x) = -BitVec.ofInt n x := BitVec.ofInt_neg ..
theorem bsub {n : Nat} (x y : Int) : BitVec.ofInt n (x - y) = BitVec.ofInt n x - BitVec.ofInt n y := by
  rw [Int.sub_eq_add_neg, badd, bneg]
  grind
theorem b1 {n : Nat} : BitVec.ofInt n 1 = 1 := rfl
theorem b2 {n : Nat} : BitVec.ofInt n 2 = 2 := rfl
theorem b4 {n : Nat} : BitVec.ofInt n 4 = 4 := rfl
