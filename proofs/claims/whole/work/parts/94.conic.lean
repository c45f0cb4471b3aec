theorem sEs0 (e X Y W : Nat → Int) : sE e (sf X) (sf Y) (sf W) 0 = 1 * sE e X Y W 0 + 1 * sE e X Y W 1 + 1 * sE e X Y W 2 + 1 * sE e X Y W 3 + 1 * sE e X Y W 4 + 1 * sP e X Y W 0 1 + 1 * sP e X Y W 0 2 + 1 * sP e X Y W 0 3 + 1 * sP e X Y W 0 4 + 1 * sP e X Y W 1 2 + 1 * sP e X Y W 1 3 + 1 * sP e X Y W 1 4 + 1 * sP e X Y W 2 3 + 1 * sP e X Y W 2 4 + 1 * sP e X Y W 3 4 := by
  simp only [sE, sP, sf]
  grind
theorem sEs1 (e X Y W : Nat → Int) : sE e (sf X) (sf Y) (sf W) 1 = 1 * sE e X Y W 1 + 4 * sE e X Y W 2 + 9 * sE e X Y W 3 + 16 * sE e X Y W 4 + 2 * sP e X Y W 1 2 + 3 * sP e X Y W 1 3 + 4 * sP e X Y W 1 4 + 6 * sP e X Y W 2 3 + 8 * sP e X Y W 2 4 + 12 * sP e X Y W 3 4 := by
  simp only [sE, sP, sf]
  grind
theorem sEs2 (e X Y W : Nat → Int) : sE e (sf X) (sf Y) (sf W) 2 = 1 * sE e X Y W 2 + 9 * sE e X Y W 3 + 36 * sE e X Y W 4 + 3 * sP e X Y W 2 3 + 6 * sP e X Y W 2 4 + 18 * sP e X Y W 3 4 := by
  simp only [sE, sP, sf]
  grind
theorem sEs3 (e X Y W : Nat → Int) : sE e (sf X) (sf Y) (sf W) 3 = 1 * sE e X Y W 3 + 16 * sE e X Y W 4 + 4 * sP e X Y W 3 4 := by
  simp only [sE, sP, sf]
  grind
theorem sEs4 (e X Y W : Nat → Int) : sE e (sf X) (sf Y) (sf W) 4 = 1 * sE e X Y W 4 := by
  simp only [sE, sP, sf]
  grind
theorem sPs01 (e X Y W : Nat → Int) : sP e (sf X) (sf Y) (sf W) 0 1 = 2 * sE e X Y W 1 + 4 * sE e X Y W 2 + 6 * sE e X Y W 3 + 8 * sE e X Y W 4 + 1 * sP e X Y W 0 1 + 2 * sP e X Y W 0 2 + 3 * sP e X Y W 0 3 + 4 * sP e X Y W 0 4 + 3 * sP e X Y W 1 2 + 4 * sP e X Y W 1 3 + 5 * sP e X Y W 1 4 + 5 * sP e X Y W 2 3 + 6 * sP e X Y W 2 4 + 7 * sP e X Y W 3 4 := by
  simp only [sE, sP, sf]
  grind
theorem sPs02 (e X Y W : Nat → Int) : sP e (sf X) (sf Y) (sf W) 0 2 = 2 * sE e X Y W 2 + 6 * sE e X Y W 3 + 12 * sE e X Y W 4 + 1 * sP e X Y W 0 2 + 3 * sP e X Y W 0 3 + 6 * sP e X Y W 0 4 + 1 * sP e X Y W 1 2 + 3 * sP e X Y W 1 3 + 6 * sP e X Y W 1 4 + 4 * sP e X Y W 2 3 + 7 * sP e X Y W 2 4 + 9 * sP e X Y W 3 4 := by
  simp only [sE, sP, sf]
  grind
theorem sPs03 (e X Y W : Nat → Int) : sP e (sf X) (sf Y) (sf W) 0 3 = 2 * sE e X Y W 3 + 8 * sE e X Y W 4 + 1 * sP e X Y W 0 3 + 4 * sP e X Y W 0 4 + 1 * sP e X Y W 1 3 + 4 * sP e X Y W 1 4 + 1 * sP e X Y W 2 3 + 4 * sP e X Y W 2 4 + 5 * sP e X Y W 3 4 := by
  simp only [sE, sP, sf]
  grind
theorem sPs04 (e X Y W : Nat → Int) : sP e (sf X) (sf Y) (sf W) 0 4 = 2 * sE e X Y W 4 + 1 * sP e X Y W 0 4 + 1 * sP e X Y W 1 4 + 1 * sP e X Y W 2 4 + 1 * sP e X Y W 3 4 := by
  simp only [sE, sP, sf]
  grind
theorem sPs12 (e X Y W : Nat → Int) : sP e (sf X) (sf Y) (sf W) 1 2 = 4 * sE e X Y W 2 + 18 * sE e X Y W 3 + 48 * sE e X Y W 4 + 1 * sP e X Y W 1 2 + 3 * sP e X Y W 1 3 + 6 * sP e X Y W 1 4 + 9 * sP e X Y W 2 3 + 16 * sP e X Y W 2 4 + 30 * sP e X Y W 3 4 := by
  simp only [sE, sP, sf]
  grind
theorem sPs13 (e X Y W : Nat → Int) : sP e (sf X) (sf Y) (sf W) 1 3 = 6 * sE e X Y W 3 + 32 * sE e X Y W 4 + 1 * sP e X Y W 1 3 + 4 * sP e X Y W 1 4 + 2 * sP e X Y W 2 3 + 8 * sP e X Y W 2 4 + 16 * sP e X Y W 3 4 := by
  simp only [sE, sP, sf]
  grind
theorem sPs14 (e X Y W : Nat → Int) : sP e (sf X) (sf Y) (sf W) 1 4 = 8 * sE e X Y W 4 + 1 * sP e X Y W 1 4 + 2 * sP e X Y W 2 4 + 3 * sP e X Y W 3 4 := by
  simp only [sE, sP, sf]
  grind
theorem sPs23 (e X Y W : Nat → Int) : sP e (sf X) (sf Y) (sf W) 2 3 = 6 * sE e X Y W 3 + 48 * sE e X Y W 4 + 1 * sP e X Y W 2 3 + 4 * sP e X Y W 2 4 + 18 * sP e X Y W 3 4 := by
  simp only [sE, sP, sf]
  grind
theorem sPs24 (e X Y W : Nat → Int) : sP e (sf X) (sf Y) (sf W) 2 4 = 12 * sE e X Y W 4 + 1 * sP e X Y W 2 4 + 3 * sP e X Y W 3 4 := by
  simp only [sE, sP, sf]
  grind
theorem sPs34 (e X Y W : Nat → Int) : sP e (sf X) (sf Y) (sf W) 3 4 = 8 * sE e X Y W 4 + 1 * sP e X Y W 3 4 := by
  simp only [sE, sP, sf]
  grind
theorem dvA_sf {b : Nat} {e X Y W : Nat → Int} (hA : dvA b e X Y W) : dvA b e (sf X) (sf Y) (sf W) := by
  refine dvA_of ?_ ?_ ?_ ?_ ?_ ?_ ?_ ?_ ?_ ?_ ?_ ?_ ?_ ?_ ?_
  · rw [sEs0]
    exact (Int.dvd_add (Int.dvd_add (Int.dvd_add (Int.dvd_add (Int.dvd_add (Int.dvd_add (Int.dvd_add (Int.dvd_add (Int.dvd_add (Int.dvd_add (Int.dvd_add (Int.dvd_add (Int.dvd_add (Int.dvd_add (dl _ (hA.1 0 (by decide))) (dl _ (hA.1 1 (by decide)))) (dl _ (hA.1 2 (by decide)))) (dl _ (hA.1 3 (by decide)))) (dl _ (hA.1 4 (by decide)))) (dl _ (hA.2 0 1 (by decide) (by decide)))) (dl _ (hA.2 0 2 (by decide) (by decide)))) (dl _ (hA.2 0 3 (by decide) (by decide)))) (dl _ (hA.2 0 4 (by decide) (by decide)))) (dl _ (hA.2 1 2 (by decide) (by decide)))) (dl _ (hA.2 1 3 (by decide) (by decide)))) (dl _ (hA.2 1 4 (by decide) (by decide)))) (dl _ (hA.2 2 3 (by decide) (by decide)))) (dl _ (hA.2 2 4 (by decide) (by decide)))) (dl _ (hA.2 3 4 (by decide) (by decide))))
  · rw [sEs1]
    exact (Int.dvd_add (Int.dvd_add (Int.dvd_add (Int.dvd_add (Int.dvd_add (Int.dvd_add (Int.dvd_add (Int.dvd_add (Int.dvd_add (dl _ (hA.1 1 (by decide))) (dl _ (hA.1 2 (by decide)))) (dl _ (hA.1 3 (by decide)))) (dl _ (hA.1 4 (by decide)))) (dl _ (hA.2 1 2 (by decide) (by decide)))) (dl _ (hA.2 1 3 (by decide) (by decide)))) (dl _ (hA.2 1 4 (by decide) (by decide)))) (dl _ (hA.2 2 3 (by decide) (by decide)))) (dl _ (hA.2 2 4 (by decide) (by decide)))) (dl _ (hA.2 3 4 (by decide) (by decide))))
  · rw [sEs2]
    exact (Int.dvd_add (Int.dvd_add (Int.dvd_add (Int.dvd_add (Int.dvd_add (dl _ (hA.1 2 (by decide))) (dl _ (hA.1 3 (by decide)))) (dl _ (hA.1 4 (by decide)))) (dl _ (hA.2 2 3 (by decide) (by decide)))) (dl _ (hA.2 2 4 (by decide) (by decide)))) (dl _ (hA.2 3 4 (by decide) (by decide))))
  · rw [sEs3]
    exact (Int.dvd_add (Int.dvd_add (dl _ (hA.1 3 (by decide))) (dl _ (hA.1 4 (by decide)))) (dl _ (hA.2 3 4 (by decide) (by decide))))
  · rw [sEs4]
    exact (dl _ (hA.1 4 (by decide)))
  · rw [sPs01]
    exact (Int.dvd_add (Int.dvd_add (Int.dvd_add (Int.dvd_add (Int.dvd_add (Int.dvd_add (Int.dvd_add (Int.dvd_add (Int.dvd_add (Int.dvd_add (Int.dvd_add (Int.dvd_add (Int.dvd_add (dl _ (hA.1 1 (by decide))) (dl _ (hA.1 2 (by decide)))) (dl _ (hA.1 3 (by decide)))) (dl _ (hA.1 4 (by decide)))) (dl _ (hA.2 0 1 (by decide) (by decide)))) (dl _ (hA.2 0 2 (by decide) (by decide)))) (dl _ (hA.2 0 3 (by decide) (by decide)))) (dl _ (hA.2 0 4 (by decide) (by decide)))) (dl _ (hA.2 1 2 (by decide) (by decide)))) (dl _ (hA.2 1 3 (by decide) (by decide)))) (dl _ (hA.2 1 4 (by decide) (by decide)))) (dl _ (hA.2 2 3 (by decide) (by decide)))) (dl _ (hA.2 2 4 (by decide) (by decide)))) (dl _ (hA.2 3 4 (by decide) (by decide))))
  · rw [sPs02]
    exact (Int.dvd_add (Int.dvd_add (Int.dvd_add (Int.dvd_add (Int.dvd_add (Int.dvd_add (Int.dvd_add (Int.dvd_add (Int.dvd_add (Int.dvd_add (Int.dvd_add (dl _ (hA.1 2 (by decide))) (dl _ (hA.1 3 (by decide)))) (dl _ (hA.1 4 (by decide)))) (dl _ (hA.2 0 2 (by decide) (by decide)))) (dl _ (hA.2 0 3 (by decide) (by decide)))) (dl _ (hA.2 0 4 (by decide) (by decide)))) (dl _ (hA.2 1 2 (by decide) (by decide)))) (dl _ (hA.2 1 3 (by decide) (by decide)))) (dl _ (hA.2 1 4 (by decide) (by decide)))) (dl _ (hA.2 2 3 (by decide) (by decide)))) (dl _ (hA.2 2 4 (by decide) (by decide)))) (dl _ (hA.2 3 4 (by decide) (by decide))))
  · rw [sPs03]
    exact (Int.dvd_add (Int.dvd_add (Int.dvd_add (Int.dvd_add (Int.dvd_add (Int.dvd_add (Int.dvd_add (Int.dvd_add (dl _ (hA.1 3 (by decide))) (dl _ (hA.1 4 (by decide)))) (dl _ (hA.2 0 3 (by decide) (by decide)))) (dl _ (hA.2 0 4 (by decide) (by decide)))) (dl _ (hA.2 1 3 (by decide) (by decide)))) (dl _ (hA.2 1 4 (by decide) (by decide)))) (dl _ (hA.2 2 3 (by decide) (by decide)))) (dl _ (hA.2 2 4 (by decide) (by decide)))) (dl _ (hA.2 3 4 (by decide) (by decide))))
  · rw [sPs04]
    exact (Int.dvd_add (Int.dvd_add (Int.dvd_add (Int.dvd_add (dl _ (hA.1 4 (by decide))) (dl _ (hA.2 0 4 (by decide) (by decide)))) (dl _ (hA.2 1 4 (by decide) (by decide)))) (dl _ (hA.2 2 4 (by decide) (by decide)))) (dl _ (hA.2 3 4 (by decide) (by decide))))
  · rw [sPs12]
    exact (Int.dvd_add (Int.dvd_add (Int.dvd_add (Int.dvd_add (Int.dvd_add (Int.dvd_add (Int.dvd_add (Int.dvd_add (dl _ (hA.1 2 (by decide))) (dl _ (hA.1 3 (by decide)))) (dl _ (hA.1 4 (by decide)))) (dl _ (hA.2 1 2 (by decide) (by decide)))) (dl _ (hA.2 1 3 (by decide) (by decide)))) (dl _ (hA.2 1 4 (by decide) (by decide)))) (dl _ (hA.2 2 3 (by decide) (by decide)))) (dl _ (hA.2 2 4 (by decide) (by decide)))) (dl _ (hA.2 3 4 (by decide) (by decide))))
  · rw [sPs13]
    exact (Int.dvd_add (Int.dvd_add (Int.dvd_add (Int.dvd_add (Int.dvd_add (Int.dvd_add (dl _ (hA.1 3 (by decide))) (dl _ (hA.1 4 (by decide)))) (dl _ (hA.2 1 3 (by decide) (by decide)))) (dl _ (hA.2 1 4 (by decide) (by decide)))) (dl _ (hA.2 2 3 (by decide) (by decide)))) (dl _ (hA.2 2 4 (by decide) (by decide)))) (dl _ (hA.2 3 4 (by decide) (by decide))))
  · rw [sPs14]
    exact (Int.dvd_add (Int.dvd_add (Int.dvd_add (dl _ (hA.1 4 (by decide))) (dl _ (hA.2 1 4 (by decide) (by decide)))) (dl _ (hA.2 2 4 (by decide) (by decide)))) (dl _ (hA.2 3 4 (by decide) (by decide))))
  · rw [sPs23]
    exact (Int.dvd_add (Int.dvd_add (Int.dvd_add (Int.dvd_add (dl _ (hA.1 3 (by decide))) (dl _ (hA.1 4 (by decide)))) (dl _ (hA.2 2 3 (by decide) (by decide)))) (dl _ (hA.2 2 4 (by decide) (by decide)))) (dl _ (hA.2 3 4 (by decide) (by decide))))
  · rw [sPs24]
    exact (Int.dvd_add (Int.dvd_add (dl _ (hA.1 4 (by decide))) (dl _ (hA.2 2 4 (by decide) (by decide)))) (dl _ (hA.2 3 4 (by decide) (by decide))))
  · rw [sPs34]
    exact (Int.dvd_add (dl _ (hA.1 4 (by decide))) (dl _ (hA.2 3 4 (by decide) (by decide))))
theorem dvA_rv {b : Nat} {e X Y W : Nat → Int} (hA : dvA b e X Y W) : dvA b e (rv X) (rv Y) (rv W) := ⟨fun i hi => hA.1 (4 - i) (by omega), fun i j hi hj => hA.2 (4 - i) (4 - j) (by omega) (by omega)⟩
theorem odd_q {b : Nat} {z : Int} (h : (2 ^ b : Int) ∣ z) (hn : ¬ (2 ^ (b + 1) : Int) ∣ z) : ∃ k : Int, z = 2 ^ b * k ∧ k % 2 = 1 := by
  obtain ⟨t, ht⟩ := h
  refine ⟨t, ht, ?_⟩
  rcases Int.emod_two_eq t with y | y
  · exfalso
    obtain ⟨m, hm⟩ : ∃ m, t = 2 * m := ⟨t / 2, by omega⟩
    exact hn ⟨m, by rw [ht, hm, Int.pow_succ]; grind⟩
  · exact y
theorem plain_0 {X Y W e G : Nat → Int} {c : Int} {b : Nat} (hS : SQ X Y W e G c) (hc : c ≠ 0) (he : ∃ i, i < 6 ∧ e i % 2 = 1) (h7 : b7 X Y W) (hA : dvA b e X Y W) (hb : b ≤ 20) (hn : ¬ (2 ^ (b + 1) : Int) ∣ sP e X Y W 0 2) : (d3 X Y W 0 1 2 ≠ 0 ∧ EA X Y W) ∨ ∀ x y w : Int, FF X Y W x y w = 0 := by
  obtain ⟨k, hk, ok⟩ := odd_q (hA.2 0 2 (by decide) (by decide)) hn
  have h0 := h7 0 (by decide)
  have hm := b7_m h7 (i := 0) (j := 1) (by decide) (by decide)
  exact plain0 hS hc he hA hk ok hb ⟨by omega, by omega, by omega⟩ ⟨by omega, by omega, by omega⟩ (b7_P h7)
theorem conic_main {X Y W e G : Nat → Int} {c : Int} (hS : SQ X Y W e G c) (hc : c ≠ 0) (he : ∃ i, i < 6 ∧ e i % 2 = 1) (h7 : b7 X Y W) (hp : ∃ i j k, i < 5 ∧ j < 5 ∧ k < 5 ∧ d3 X Y W i j k ≠ 0) : (d3 X Y W 0 1 2 ≠ 0 ∧ EA X Y W) ∨ (d3 (rv X) (rv Y) (rv W) 0 1 2 ≠ 0 ∧ EA (rv X) (rv Y) (rv W)) ∨ (∀ x y w : Int, FF X Y W x y w = 0) ∨ ∃ (b : Nat) (k : Int), b ≤ 20 ∧ dvA b e X Y W ∧ sP e X Y W 0 4 = 2 ^ b * k ∧ k % 2 = 1 ∧ (2 ^ (b + 1) : Int) ∣ sP e X Y W 0 2 ∧ (2 ^ (b + 1) : Int) ∣ sP e X Y W 0 3 ∧ (2 ^ (b + 1) : Int) ∣ sP e X Y W 1 3 ∧ (2 ^ (b + 1) : Int) ∣ sP e X Y W 1 4 ∧ (2 ^ (b + 1) : Int) ∣ sP e X Y W 2 4 := by
  obtain ⟨b, hb, hA, hnA⟩ := low_b he h7 hp
  have hC := SQ_CK hS hc
  have hCr := SQ_CK (SQ_rv hS) hc
  by_cases q02 : (2 ^ (b + 1) : Int) ∣ sP e X Y W 0 2
  · by_cases q24 : (2 ^ (b + 1) : Int) ∣ sP e X Y W 2 4
    · have q03 := par03 hC hA hb q02
      have q14 : (2 ^ (b + 1) : Int) ∣ sP e X Y W 1 4 := by
        have h := par03 hCr (dvA_rv hA) hb (by
          show (2 ^ (b + 1) : Int) ∣ sP e X Y W 4 2
          rw [sP_sym]
          exact q24)
        have h2 : (2 ^ (b + 1) : Int) ∣ sP e X Y W 4 1 := h
        rw [sP_sym]
        exact h2
      by_cases q13 : (2 ^ (b + 1) : Int) ∣ sP e X Y W 1 3
      · right
        right
        right
        have q04 : ¬ (2 ^ (b + 1) : Int) ∣ sP e X Y W 0 4 := fun h => hnA (dvA_six hC (by omega) q02 q03 h q13 q14 q24)
        obtain ⟨k, hk, ok⟩ := odd_q (hA.2 0 4 (by decide) (by decide)) q04
        exact ⟨b, k, hb, hA, hk, ok, q02, q03, q13, q14, q24⟩
      · right
        right
        left
        have up : ∀ {z : Int}, (2 ^ 32 : Int) ∣ z → (2 ^ (b + 1) : Int) ∣ z := fun h => pw_le_dvd (by omega) h
        have ev : ∀ {z : Int}, (2 ^ b : Int) ∣ z → (2 ^ (b + 1) : Int) ∣ 2 * z := fun {z} h => by
          obtain ⟨t, ht⟩ := h
          exact ⟨t, by rw [ht, Int.pow_succ]; grind⟩
        have hAs := dvA_sf hA
        have S := fun i j hi hj => hA.2 i j hi hj
        have n2 : ¬ (2 ^ (b + 1) : Int) ∣ sP e (sf X) (sf Y) (sf W) 0 2 := fun h => q13 (by
          rw [sPs02] at h
          have e1 : sP e X Y W 1 3 = (2 * sE e X Y W 2 + 6 * sE e X Y W 3 + 12 * sE e X Y W 4 + 1 * sP e X Y W 0 2 + 3 * sP e X Y W 0 3 + 6 * sP e X Y W 0 4 + 1 * sP e X Y W 1 2 + 3 * sP e X Y W 1 3 + 6 * sP e X Y W 1 4 + 4 * sP e X Y W 2 3 + 7 * sP e X Y W 2 4 + 9 * sP e X Y W 3 4) - (sP e X Y W 0 2 + 7 * sP e X Y W 2 4 + 9 * sP e X Y W 3 4 + (sP e X Y W 0 3 + sP e X Y W 1 2) + 2 * (sP e X Y W 0 3 + sP e X Y W 1 3 + 3 * sP e X Y W 0 4 + 3 * sP e X Y W 1 4 + 2 * sP e X Y W 2 3 + sE e X Y W 2 + 3 * sE e X Y W 3 + 6 * sE e X Y W 4)) := by omega
          rw [e1]
          refine Int.dvd_sub h (Int.dvd_add (Int.dvd_add (Int.dvd_add (Int.dvd_add q02 (dl _ q24)) (dl _ (up hC.2.2.2.2.2.2.2.1))) (up hC.2.2.2.1)) (ev ?_))
          exact Int.dvd_add (Int.dvd_add (Int.dvd_add (Int.dvd_add (Int.dvd_add (Int.dvd_add (Int.dvd_add (S 0 3 (by decide) (by decide)) (S 1 3 (by decide) (by decide))) (dl _ (S 0 4 (by decide) (by decide)))) (dl _ (S 1 4 (by decide) (by decide)))) (dl _ (S 2 3 (by decide) (by decide)))) (hA.1 2 (by decide))) (dl _ (hA.1 3 (by decide)))) (dl _ (hA.1 4 (by decide))))
        have n3 : ¬ (2 ^ (b + 1) : Int) ∣ sP e (sf X) (sf Y) (sf W) 0 3 := fun h => q13 (by
          rw [sPs03] at h
          have e1 : sP e X Y W 1 3 = (2 * sE e X Y W 3 + 8 * sE e X Y W 4 + 1 * sP e X Y W 0 3 + 4 * sP e X Y W 0 4 + 1 * sP e X Y W 1 3 + 4 * sP e X Y W 1 4 + 1 * sP e X Y W 2 3 + 4 * sP e X Y W 2 4 + 5 * sP e X Y W 3 4) - (sP e X Y W 0 3 + ((sP e X Y W 1 4 + sP e X Y W 2 3) - sP e X Y W 1 4) + 5 * sP e X Y W 3 4 + 2 * (2 * sP e X Y W 0 4 + 2 * sP e X Y W 1 4 + 2 * sP e X Y W 2 4 + sE e X Y W 3 + 4 * sE e X Y W 4)) := by omega
          rw [e1]
          refine Int.dvd_sub h (Int.dvd_add (Int.dvd_add (Int.dvd_add q03 (Int.dvd_sub (up hC.2.2.2.2.2.1) q14)) (dl _ (up hC.2.2.2.2.2.2.2.1))) (ev ?_))
          exact Int.dvd_add (Int.dvd_add (Int.dvd_add (Int.dvd_add (dl _ (S 0 4 (by decide) (by decide))) (dl _ (S 1 4 (by decide) (by decide)))) (dl _ (S 2 4 (by decide) (by decide)))) (hA.1 3 (by decide))) (dl _ (hA.1 4 (by decide))))
        obtain ⟨k, hk, ok⟩ := odd_q (hAs.2 0 2 (by decide) (by decide)) n2
        obtain ⟨k3, hk3, ok3⟩ := odd_q (hAs.2 0 3 (by decide) (by decide)) n3
        exact plain_1 hS hc he hAs hk ok hk3 ok3 hb ⟨sf_0 fun i hi => (h7 i hi).1, sf_0 fun i hi => (h7 i hi).2.1, sf_0 fun i hi => (h7 i hi).2.2⟩ ⟨sf_m fun i j hi hj => (b7_m h7 hi hj).1, sf_m fun i j hi hj => (b7_m h7 hi hj).2.1, sf_m fun i j hi hj => (b7_m h7 hi hj).2.2⟩ (b7_P h7)
    · rcases plain_0 (SQ_rv hS) hc he (b7_rv h7) (dvA_rv hA) hb (fun h => q24 (by
        have h2 : (2 ^ (b + 1) : Int) ∣ sP e X Y W 4 2 := h
        rw [sP_sym]
        exact h2)) with z | z
      · exact Or.inr (Or.inl z)
      · exact Or.inr (Or.inr (Or.inl fun x y w => by rw [← FF_rv]; exact z x y w))
  · rcases plain_0 hS hc he h7 hA hb q02 with z | z
    · exact Or.inl z
    · exact Or.inr (Or.inr (Or.inl z))
