set_option maxRecDepth 100000 in
theorem ini_X6 : Cond.initialized RX6 ∈ lw_g := z_mem (k := 31) rfl rfl
theorem inX6 : ∀ x ∈ u_ws RX6 TX6 9, x ∈ lw_g := by
  have h : (u_ws RX6 TX6 9).all (fun x => decide (x ∈ lw_tbl) && goodWord x) = true := by decide +kernel
  intro x hx
  have h1 := List.all_eq_true.mp h x hx
  simp only [Bool.and_eq_true, decide_eq_true_eq] at h1
  exact z_memD h1.1 h1.2
set_option maxRecDepth 100000 in
theorem ini_X0 : Cond.initialized RX0 ∈ lw_g := z_mem (k := 37) rfl rfl
theorem inX0 : ∀ x ∈ u_ws RX0 TX0 4, x ∈ lw_g := by
  have h : (u_ws RX0 TX0 4).all (fun x => decide (x ∈ lw_tbl) && goodWord x) = true := by decide +kernel
  intro x hx
  have h1 := List.all_eq_true.mp h x hx
  simp only [Bool.and_eq_true, decide_eq_true_eq] at h1
  exact z_memD h1.1 h1.2
set_option maxRecDepth 100000 in
theorem ini_X1 : Cond.initialized RX1 ∈ lw_g := z_mem (k := 33) rfl rfl
theorem inX1 : ∀ x ∈ u_ws RX1 TX1 3, x ∈ lw_g := by
  have h : (u_ws RX1 TX1 3).all (fun x => decide (x ∈ lw_tbl) && goodWord x) = true := by decide +kernel
  intro x hx
  have h1 := List.all_eq_true.mp h x hx
  simp only [Bool.and_eq_true, decide_eq_true_eq] at h1
  exact z_memD h1.1 h1.2
set_option maxRecDepth 100000 in
theorem ini_X2 : Cond.initialized RX2 ∈ lw_g := z_mem (k := 34) rfl rfl
theorem inX2 : ∀ x ∈ u_ws RX2 TX2 4, x ∈ lw_g := by
  have h : (u_ws RX2 TX2 4).all (fun x => decide (x ∈ lw_tbl) && goodWord x) = true := by decide +kernel
  intro x hx
  have h1 := List.all_eq_true.mp h x hx
  simp only [Bool.and_eq_true, decide_eq_true_eq] at h1
  exact z_memD h1.1 h1.2
set_option maxRecDepth 100000 in
theorem ini_X3 : Cond.initialized RX3 ∈ lw_g := z_mem (k := 35) rfl rfl
theorem inX3 : ∀ x ∈ u_ws RX3 TX3 2, x ∈ lw_g := by
  have h : (u_ws RX3 TX3 2).all (fun x => decide (x ∈ lw_tbl) && goodWord x) = true := by decide +kernel
  intro x hx
  have h1 := List.all_eq_true.mp h x hx
  simp only [Bool.and_eq_true, decide_eq_true_eq] at h1
  exact z_memD h1.1 h1.2
set_option maxRecDepth 100000 in
theorem ini_X4 : Cond.initialized RX4 ∈ lw_g := z_mem (k := 36) rfl rfl
theorem inX4 : ∀ x ∈ u_ws RX4 TX4 4, x ∈ lw_g := by
  have h : (u_ws RX4 TX4 4).all (fun x => decide (x ∈ lw_tbl) && goodWord x) = true := by decide +kernel
  intro x hx
  have h1 := List.all_eq_true.mp h x hx
  simp only [Bool.and_eq_true, decide_eq_true_eq] at h1
  exact z_memD h1.1 h1.2
set_option maxRecDepth 100000 in
theorem ini_X5 : Cond.initialized RX5 ∈ lw_g := z_mem (k := 32) rfl rfl
theorem inX5 : ∀ x ∈ u_ws RX5 TX5 1, x ∈ lw_g := by
  have h : (u_ws RX5 TX5 1).all (fun x => decide (x ∈ lw_tbl) && goodWord x) = true := by decide +kernel
  intro x hx
  have h1 := List.all_eq_true.mp h x hx
  simp only [Bool.and_eq_true, decide_eq_true_eq] at h1
  exact z_memD h1.1 h1.2
set_option maxRecDepth 100000 in
theorem ini_J6 : Cond.initialized RJ6 ∈ lw_g := z_mem (k := 42) rfl rfl
set_option maxRecDepth 100000 in
theorem ini_J9 : Cond.initialized RJ9 ∈ lw_g := z_mem (k := 41) rfl rfl
set_option maxRecDepth 100000 in
theorem ini_J7 : Cond.initialized RJ7 ∈ lw_g := z_mem (k := 39) rfl rfl
theorem ns_X6_9 : (RX6, 9, yX5_init, "EliminateLoci") ∈ nst := by decide +kernel
set_option maxRecDepth 100000 in
theorem fl_X5_11 : Cond.fieldLink RX5 11 "EliminateLoci$Row" "parts" "[[J" ∈ lw_g := z_mem (k := 59) rfl rfl
set_option maxRecDepth 100000 in
theorem fl_X1_27 : Cond.fieldLink RX1 27 "EliminateLoci$Row" "parts" "[[J" ∈ lw_g := z_mem (k := 60) rfl rfl
set_option maxRecDepth 100000 in
theorem fl_X6_69 : Cond.fieldLink RX6 69 "EliminateLoci$Row" "parts" "[[J" ∈ lw_g := z_mem (k := 61) rfl rfl
set_option maxRecDepth 100000 in
theorem fl_X2_37 : Cond.fieldLink RX2 37 "EliminateLoci$Row" "parts" "[[J" ∈ lw_g := z_mem (k := 62) rfl rfl
theorem ns_X6_21 : (RX6, 21, yX1_init, "EliminateLoci") ∈ nst := by decide +kernel
set_option maxRecDepth 100000 in
theorem fl_X1_9 : Cond.fieldLink RX1 9 "EliminateLoci$Divisor" "shared" "[J" ∈ lw_g := z_mem (k := 73) rfl rfl
set_option maxRecDepth 100000 in
theorem fl_X1_15 : Cond.fieldLink RX1 15 "EliminateLoci$Divisor" "other" "[J" ∈ lw_g := z_mem (k := 74) rfl rfl
set_option maxRecDepth 100000 in
theorem fl_X1_18 : Cond.fieldLink RX1 18 "EliminateLoci$Divisor" "spare" "[J" ∈ lw_g := z_mem (k := 75) rfl rfl
set_option maxRecDepth 100000 in
theorem ml_X6_28 : Cond.methodLink RX6 28 yX2_init ∈ lw_g := z_mem (k := 85) rfl rfl
theorem ns_X2_26 : (RX2, 26, yX3_init, "EliminateLoci") ∈ nst := by decide +kernel
set_option maxRecDepth 100000 in
theorem fl_X3_9 : Cond.fieldLink RX3 9 "EliminateLoci$Plane" "cells" "[J" ∈ lw_g := z_mem (k := 96) rfl rfl
set_option maxRecDepth 100000 in
theorem fl_X4_57 : Cond.fieldLink RX4 57 "EliminateLoci$Plane" "cells" "[J" ∈ lw_g := z_mem (k := 97) rfl rfl
set_option maxRecDepth 100000 in
theorem fl_X2_56 : Cond.fieldLink RX2 56 "EliminateLoci$Plane" "cells" "[J" ∈ lw_g := z_mem (k := 98) rfl rfl
set_option maxRecDepth 100000 in
theorem fl_X6_122 : Cond.fieldLink RX6 122 "EliminateLoci$Plane" "cells" "[J" ∈ lw_g := z_mem (k := 99) rfl rfl
set_option maxRecDepth 100000 in
theorem fl_X3_15 : Cond.fieldLink RX3 15 "EliminateLoci$Plane" "bound" "I" ∈ lw_g := z_mem (k := 100) rfl rfl
set_option maxRecDepth 100000 in
theorem fl_X4_32 : Cond.fieldLink RX4 32 "EliminateLoci$Plane" "bound" "I" ∈ lw_g := z_mem (k := 101) rfl rfl
set_option maxRecDepth 100000 in
theorem fl_X6_113 : Cond.fieldLink RX6 113 "EliminateLoci$Plane" "bound" "I" ∈ lw_g := z_mem (k := 102) rfl rfl
set_option maxRecDepth 100000 in
theorem fl_X2_11 : Cond.fieldLink RX2 11 "EliminateLoci$Eliminant" "first" "[LEliminateLoci$Plane;" ∈ lw_g := z_mem (k := 108) rfl rfl
set_option maxRecDepth 100000 in
theorem fl_X2_17 : Cond.fieldLink RX2 17 "EliminateLoci$Eliminant" "second" "[LEliminateLoci$Plane;" ∈ lw_g := z_mem (k := 109) rfl rfl
set_option maxRecDepth 100000 in
theorem fl_X2_20 : Cond.fieldLink RX2 20 "EliminateLoci$Eliminant" "entries" "[LEliminateLoci$Plane;" ∈ lw_g := z_mem (k := 110) rfl rfl
set_option maxRecDepth 100000 in
theorem fl_X2_23 : Cond.fieldLink RX2 23 "EliminateLoci$Eliminant" "minors" "[LEliminateLoci$Plane;" ∈ lw_g := z_mem (k := 111) rfl rfl
theorem ns_X6_35 : (RX6, 35, yX4_init, "EliminateLoci") ∈ nst := by decide +kernel
theorem ns_X4_9 : (RX4, 9, yX3_init, "EliminateLoci") ∈ nst := by decide +kernel
set_option maxRecDepth 100000 in
theorem fl_X4_10 : Cond.fieldLink RX4 10 "EliminateLoci$RootFinder" "whole" "LEliminateLoci$Plane;" ∈ lw_g := z_mem (k := 129) rfl rfl
set_option maxRecDepth 100000 in
theorem fl_X4_16 : Cond.fieldLink RX4 16 "EliminateLoci$RootFinder" "root" "LEliminateLoci$Plane;" ∈ lw_g := z_mem (k := 130) rfl rfl
set_option maxRecDepth 100000 in
theorem fl_X4_19 : Cond.fieldLink RX4 19 "EliminateLoci$RootFinder" "raised" "LEliminateLoci$Plane;" ∈ lw_g := z_mem (k := 131) rfl rfl
set_option maxRecDepth 100000 in
theorem fl_X4_22 : Cond.fieldLink RX4 22 "EliminateLoci$RootFinder" "spare" "LEliminateLoci$Plane;" ∈ lw_g := z_mem (k := 132) rfl rfl
theorem ns_X6_42 : (RX6, 42, yX0_init, "EliminateLoci") ∈ nst := by decide +kernel
theorem ns_X0_9 : (RX0, 9, yX3_init, "EliminateLoci") ∈ nst := by decide +kernel
set_option maxRecDepth 100000 in
theorem fl_X0_10 : Cond.fieldLink RX0 10 "EliminateLoci$Curve" "root" "LEliminateLoci$Plane;" ∈ lw_g := z_mem (k := 150) rfl rfl
set_option maxRecDepth 100000 in
theorem fl_X4_47 : Cond.fieldLink RX4 47 "EliminateLoci$Curve" "root" "LEliminateLoci$Plane;" ∈ lw_g := z_mem (k := 151) rfl rfl
set_option maxRecDepth 100000 in
theorem fl_X6_109 : Cond.fieldLink RX6 109 "EliminateLoci$Curve" "root" "LEliminateLoci$Plane;" ∈ lw_g := z_mem (k := 152) rfl rfl
set_option maxRecDepth 100000 in
theorem fl_X0_16 : Cond.fieldLink RX0 16 "EliminateLoci$Curve" "power" "I" ∈ lw_g := z_mem (k := 153) rfl rfl
set_option maxRecDepth 100000 in
theorem fl_X4_50 : Cond.fieldLink RX4 50 "EliminateLoci$Curve" "power" "I" ∈ lw_g := z_mem (k := 154) rfl rfl
set_option maxRecDepth 100000 in
theorem fl_X6_119 : Cond.fieldLink RX6 119 "EliminateLoci$Curve" "power" "I" ∈ lw_g := z_mem (k := 155) rfl rfl
set_option maxRecDepth 100000 in
theorem fl_X0_20 : Cond.fieldLink RX0 20 "EliminateLoci$Curve" "known" "Z" ∈ lw_g := z_mem (k := 156) rfl rfl
set_option maxRecDepth 100000 in
theorem fl_X6_144 : Cond.fieldLink RX6 144 "EliminateLoci$Curve" "known" "Z" ∈ lw_g := z_mem (k := 157) rfl rfl
set_option maxRecDepth 100000 in
theorem fl_X0_24 : Cond.fieldLink RX0 24 "EliminateLoci$Curve" "found" "Z" ∈ lw_g := z_mem (k := 158) rfl rfl
set_option maxRecDepth 100000 in
theorem fl_X6_106 : Cond.fieldLink RX6 106 "EliminateLoci$Curve" "found" "Z" ∈ lw_g := z_mem (k := 159) rfl rfl
set_option maxRecDepth 100000 in
theorem fl_X6_10 : Cond.fieldLink RX6 10 "EliminateLoci" "row" "LEliminateLoci$Row;" ∈ lw_g := z_mem (k := 169) rfl rfl
set_option maxRecDepth 100000 in
theorem fl_X6_16 : Cond.fieldLink RX6 16 "EliminateLoci" "freedRow" "LEliminateLoci$Row;" ∈ lw_g := z_mem (k := 170) rfl rfl
set_option maxRecDepth 100000 in
theorem fl_X6_22 : Cond.fieldLink RX6 22 "EliminateLoci" "divisor" "LEliminateLoci$Divisor;" ∈ lw_g := z_mem (k := 171) rfl rfl
set_option maxRecDepth 100000 in
theorem fl_X6_29 : Cond.fieldLink RX6 29 "EliminateLoci" "eliminant" "LEliminateLoci$Eliminant;" ∈ lw_g := z_mem (k := 172) rfl rfl
set_option maxRecDepth 100000 in
theorem fl_X6_36 : Cond.fieldLink RX6 36 "EliminateLoci" "finder" "LEliminateLoci$RootFinder;" ∈ lw_g := z_mem (k := 173) rfl rfl
set_option maxRecDepth 100000 in
theorem fl_X6_43 : Cond.fieldLink RX6 43 "EliminateLoci" "locus" "LEliminateLoci$Curve;" ∈ lw_g := z_mem (k := 174) rfl rfl
set_option maxRecDepth 100000 in
theorem fl_X6_47 : Cond.fieldLink RX6 47 "EliminateLoci" "envelope" "LEliminateLoci$Curve;" ∈ lw_g := z_mem (k := 175) rfl rfl
set_option maxRecDepth 100000 in
theorem fl_X6_50 : Cond.fieldLink RX6 50 "EliminateLoci" "spot" "[J" ∈ lw_g := z_mem (k := 176) rfl rfl
set_option maxRecDepth 100000 in
theorem fl_X6_54 : Cond.fieldLink RX6 54 "EliminateLoci" "freedKnown" "Z" ∈ lw_g := z_mem (k := 177) rfl rfl
set_option maxRecDepth 100000 in
theorem ml_X6_58 : Cond.methodLink RX6 58 yX6_isPart ∈ lw_g := z_mem (k := 201) rfl rfl
set_option maxRecDepth 100000 in
theorem ml_X6_62 : Cond.methodLink RX6 62 yX6_isPower ∈ lw_g := z_mem (k := 204) rfl rfl
set_option maxRecDepth 100000 in
theorem ml_X6_65 : Cond.methodLink RX6 65 yX6_isWithin ∈ lw_g := z_mem (k := 207) rfl rfl
set_option maxRecDepth 100000 in
theorem ml_X6_73 : Cond.methodLink RX6 73 yX6_forget ∈ lw_g := z_mem (k := 210) rfl rfl
set_option maxRecDepth 100000 in
theorem ml_X6_76 : Cond.methodLink RX6 76 yX5_countAndErase ∈ lw_g := z_mem (k := 218) rfl rfl
set_option maxRecDepth 100000 in
theorem ml_X6_80 : Cond.methodLink RX6 80 yX5_highestPower ∈ lw_g := z_mem (k := 226) rfl rfl
set_option maxRecDepth 100000 in
theorem ml_X6_83 : Cond.methodLink RX6 83 yX6_freeRow ∈ lw_g := z_mem (k := 230) rfl rfl
set_option maxRecDepth 100000 in
theorem ml_X6_147 : Cond.methodLink RX6 147 yX1_free ∈ lw_g := z_mem (k := 234) rfl rfl
set_option maxRecDepth 100000 in
theorem ml_X1_21 : Cond.methodLink RX1 21 yJ7_fill_d0a16 ∈ lw_g := z_mem (k := 238) rfl rfl
set_option maxRecDepth 100000 in
theorem ml_X1_39 : Cond.methodLink RX1 39 yX1_shareWithOther ∈ lw_g := z_mem (k := 244) rfl rfl
set_option maxRecDepth 100000 in
theorem ml_X1_46 : Cond.methodLink RX1 46 yX5_topOf ∈ lw_g := z_mem (k := 248) rfl rfl
set_option maxRecDepth 100000 in
theorem ml_X1_53 : Cond.methodLink RX1 53 yX1_swap ∈ lw_g := z_mem (k := 251) rfl rfl
set_option maxRecDepth 100000 in
theorem ml_X1_56 : Cond.methodLink RX1 56 yX1_lowerShared ∈ lw_g := z_mem (k := 255) rfl rfl
theorem ns_X1_60 : (RX1, 60, yX6_commonOf, "EliminateLoci") ∈ nst := by decide +kernel
set_option maxRecDepth 100000 in
theorem ml_X1_42 : Cond.methodLink RX1 42 yX1_makePrimitive ∈ lw_g := z_mem (k := 262) rfl rfl
set_option maxRecDepth 100000 in
theorem ml_X1_50 : Cond.methodLink RX1 50 yX1_divideByShared ∈ lw_g := z_mem (k := 266) rfl rfl
set_option maxRecDepth 100000 in
theorem co_X6_87 : Cond.constant RX6 87 (-1000000) ∈ lw_g := z_mem (k := 274) rfl rfl
set_option maxRecDepth 100000 in
theorem ml_X6_88 : Cond.methodLink RX6 88 yX6_isParameter ∈ lw_g := z_mem (k := 279) rfl rfl
set_option maxRecDepth 100000 in
theorem ml_X6_91 : Cond.methodLink RX6 91 yX6_moveTo ∈ lw_g := z_mem (k := 282) rfl rfl
set_option maxRecDepth 100000 in
theorem ml_X6_166 : Cond.methodLink RX6 166 yX6_powerOf ∈ lw_g := z_mem (k := 286) rfl rfl
set_option maxRecDepth 100000 in
theorem ml_X6_95 : Cond.methodLink RX6 95 yX6_commonOf ∈ lw_g := z_mem (k := 289) rfl rfl
set_option maxRecDepth 100000 in
theorem ml_X6_99 : Cond.methodLink RX6 99 yX6_isSort ∈ lw_g := z_mem (k := 294) rfl rfl
set_option maxRecDepth 100000 in
theorem ml_X6_102 : Cond.methodLink RX6 102 yX6_curveOf ∈ lw_g := z_mem (k := 297) rfl rfl
set_option maxRecDepth 100000 in
theorem ml_X6_151 : Cond.methodLink RX6 151 yX2_takeMover ∈ lw_g := z_mem (k := 301) rfl rfl
set_option maxRecDepth 100000 in
theorem ml_X2_27 : Cond.methodLink RX2 27 yX5_isZero ∈ lw_g := z_mem (k := 305) rfl rfl
set_option maxRecDepth 100000 in
theorem ml_X5_16 : Cond.methodLink RX5 16 yX5_topOf ∈ lw_g := z_mem (k := 309) rfl rfl
set_option maxRecDepth 100000 in
theorem ml_X2_33 : Cond.methodLink RX2 33 yX5_highestPower ∈ lw_g := z_mem (k := 310) rfl rfl
set_option maxRecDepth 100000 in
theorem ml_X2_41 : Cond.methodLink RX2 41 yX3_setLine ∈ lw_g := z_mem (k := 311) rfl rfl
set_option maxRecDepth 100000 in
theorem ml_X3_25 : Cond.methodLink RX3 25 yX3_erase ∈ lw_g := z_mem (k := 315) rfl rfl
set_option maxRecDepth 100000 in
theorem ml_X3_19 : Cond.methodLink RX3 19 yJ7_fill_d0a16 ∈ lw_g := z_mem (k := 319) rfl rfl
theorem ns_X3_28 : (RX3, 28, yX6_slotOf, "EliminateLoci") ∈ nst := by decide +kernel
set_option maxRecDepth 100000 in
theorem ml_X6_155 : Cond.methodLink RX6 155 yX2_takeLines ∈ lw_g := z_mem (k := 323) rfl rfl
set_option maxRecDepth 100000 in
theorem ml_X2_45 : Cond.methodLink RX2 45 yX2_setScaledLine ∈ lw_g := z_mem (k := 327) rfl rfl
set_option maxRecDepth 100000 in
theorem ml_X6_158 : Cond.methodLink RX6 158 yX2_resultant ∈ lw_g := z_mem (k := 330) rfl rfl
set_option maxRecDepth 100000 in
theorem ml_X2_49 : Cond.methodLink RX2 49 yX2_fillEntry ∈ lw_g := z_mem (k := 334) rfl rfl
set_option maxRecDepth 100000 in
theorem ml_X2_53 : Cond.methodLink RX2 53 yX3_erase ∈ lw_g := z_mem (k := 338) rfl rfl
set_option maxRecDepth 100000 in
theorem ml_X2_64 : Cond.methodLink RX2 64 yJ9_min_7cf53 ∈ lw_g := z_mem (k := 339) rfl rfl
set_option maxRecDepth 100000 in
theorem ml_X2_70 : Cond.methodLink RX2 70 yX3_addProduct ∈ lw_g := z_mem (k := 342) rfl rfl
set_option maxRecDepth 100000 in
theorem co_X2_74 : Cond.constantLong RX2 74 (-1) ∈ lw_g := z_mem (k := 346) rfl rfl
set_option maxRecDepth 100000 in
theorem ml_X2_76 : Cond.methodLink RX2 76 yX3_tighten ∈ lw_g := z_mem (k := 347) rfl rfl
set_option maxRecDepth 100000 in
theorem ml_X3_38 : Cond.methodLink RX3 38 yX3_firstOfBound ∈ lw_g := z_mem (k := 351) rfl rfl
set_option maxRecDepth 100000 in
theorem ml_X2_60 : Cond.methodLink RX2 60 yX2_fillMinor ∈ lw_g := z_mem (k := 355) rfl rfl
set_option maxRecDepth 100000 in
theorem ml_X2_79 : Cond.methodLink RX2 79 yJ6_bitCount_0f7a4 ∈ lw_g := z_mem (k := 359) rfl rfl
set_option maxRecDepth 100000 in
theorem co_J6_265 : Cond.constant RJ6 265 (1431655765) ∈ lw_g := z_mem (k := 362) rfl rfl
set_option maxRecDepth 100000 in
theorem co_J6_266 : Cond.constant RJ6 266 (858993459) ∈ lw_g := z_mem (k := 363) rfl rfl
set_option maxRecDepth 100000 in
theorem co_J6_267 : Cond.constant RJ6 267 (252645135) ∈ lw_g := z_mem (k := 364) rfl rfl
set_option maxRecDepth 100000 in
theorem ml_X6_162 : Cond.methodLink RX6 162 yX4_findRoot ∈ lw_g := z_mem (k := 365) rfl rfl
set_option maxRecDepth 100000 in
theorem ml_X4_25 : Cond.methodLink RX4 25 yX3_copy ∈ lw_g := z_mem (k := 369) rfl rfl
set_option maxRecDepth 100000 in
theorem ml_X4_29 : Cond.methodLink RX4 29 yX3_makePrimitive ∈ lw_g := z_mem (k := 374) rfl rfl
set_option maxRecDepth 100000 in
theorem ml_X3_42 : Cond.methodLink RX3 42 yX3_tighten ∈ lw_g := z_mem (k := 378) rfl rfl
theorem ns_X3_45 : (RX3, 45, yX6_commonOf, "EliminateLoci") ∈ nst := by decide +kernel
set_option maxRecDepth 100000 in
theorem ml_X4_36 : Cond.methodLink RX4 36 yX4_startRoot ∈ lw_g := z_mem (k := 380) rfl rfl
set_option maxRecDepth 100000 in
theorem ml_X4_53 : Cond.methodLink RX4 53 yX3_firstOfBound ∈ lw_g := z_mem (k := 384) rfl rfl
theorem ns_X4_61 : (RX4, 61, yX6_slotOf, "EliminateLoci") ∈ nst := by decide +kernel
theorem ns_X4_67 : (RX4, 67, yX6_rootOf, "EliminateLoci") ∈ nst := by decide +kernel
set_option maxRecDepth 100000 in
theorem ml_X6_170 : Cond.methodLink RX6 170 yX6_isPowerWithin ∈ lw_g := z_mem (k := 389) rfl rfl
set_option maxRecDepth 100000 in
theorem ml_X4_71 : Cond.methodLink RX4 71 yX3_erase ∈ lw_g := z_mem (k := 392) rfl rfl
theorem ns_X4_74 : (RX4, 74, yX6_powerOf, "EliminateLoci") ∈ nst := by decide +kernel
set_option maxRecDepth 100000 in
theorem ml_X4_40 : Cond.methodLink RX4 40 yX4_completeRoot ∈ lw_g := z_mem (k := 394) rfl rfl
set_option maxRecDepth 100000 in
theorem ml_X4_77 : Cond.methodLink RX4 77 yX3_sumOfSizes ∈ lw_g := z_mem (k := 398) rfl rfl
set_option maxRecDepth 100000 in
theorem ml_X3_49 : Cond.methodLink RX3 49 yJ9_abs_067f4 ∈ lw_g := z_mem (k := 402) rfl rfl
set_option maxRecDepth 100000 in
theorem ml_X4_81 : Cond.methodLink RX4 81 yX4_raiseRoot ∈ lw_g := z_mem (k := 405) rfl rfl
set_option maxRecDepth 100000 in
theorem ml_X4_85 : Cond.methodLink RX4 85 yX3_addProduct ∈ lw_g := z_mem (k := 409) rfl rfl
set_option maxRecDepth 100000 in
theorem ml_X4_43 : Cond.methodLink RX4 43 yX3_isSame ∈ lw_g := z_mem (k := 410) rfl rfl
set_option maxRecDepth 100000 in
theorem ml_X6_125 : Cond.methodLink RX6 125 yX6_slotOf ∈ lw_g := z_mem (k := 422) rfl rfl
set_option maxRecDepth 100000 in
theorem ml_X6_129 : Cond.methodLink RX6 129 yX6_isPlace ∈ lw_g := z_mem (k := 427) rfl rfl
set_option maxRecDepth 100000 in
theorem ml_X6_133 : Cond.methodLink RX6 133 yX3_scaledValue ∈ lw_g := z_mem (k := 430) rfl rfl
theorem ns_X3_55 : (RX3, 55, yX6_powerOf, "EliminateLoci") ∈ nst := by decide +kernel
set_option maxRecDepth 100000 in
theorem ml_X6_137 : Cond.methodLink RX6 137 yX6_slopeByU ∈ lw_g := z_mem (k := 447) rfl rfl
set_option maxRecDepth 100000 in
theorem ml_X6_141 : Cond.methodLink RX6 141 yX6_slopeByV ∈ lw_g := z_mem (k := 451) rfl rfl
set_option maxRecDepth 100000 in
theorem mc_X0_init : Cond.code yX0_init cX0_init 1 none ∈ lw_g := z_mem (k := 146) rfl rfl
theorem nd_X0_init : yX0_init.cls ≠ "java/lang/invoke/MethodHandle" ∧ yX0_init.cls ≠ "java/lang/invoke/VarHandle" ∧ (parseMethodDescriptor yX0_init.desc).map (fun d => d.parameters.length) = some 0 := by decide +kernel
set_option maxRecDepth 100000 in
theorem im_X0_init : Cond.instanceMethod yX0_init ∈ lw_g := z_mem (k := 145) rfl rfl
set_option maxRecDepth 100000 in
theorem mc_X1_init : Cond.code yX1_init cX1_init 1 none ∈ lw_g := z_mem (k := 71) rfl rfl
theorem nd_X1_init : yX1_init.cls ≠ "java/lang/invoke/MethodHandle" ∧ yX1_init.cls ≠ "java/lang/invoke/VarHandle" ∧ (parseMethodDescriptor yX1_init.desc).map (fun d => d.parameters.length) = some 0 := by decide +kernel
set_option maxRecDepth 100000 in
theorem im_X1_init : Cond.instanceMethod yX1_init ∈ lw_g := z_mem (k := 70) rfl rfl
set_option maxRecDepth 100000 in
theorem mc_X1_free : Cond.code yX1_free cX1_free 4 none ∈ lw_g := z_mem (k := 237) rfl rfl
theorem nd_X1_free : yX1_free.cls ≠ "java/lang/invoke/MethodHandle" ∧ yX1_free.cls ≠ "java/lang/invoke/VarHandle" ∧ (parseMethodDescriptor yX1_free.desc).map (fun d => d.parameters.length) = some 2 := by decide +kernel
set_option maxRecDepth 100000 in
theorem im_X1_free : Cond.instanceMethod yX1_free ∈ lw_g := z_mem (k := 235) rfl rfl
set_option maxRecDepth 100000 in
theorem se_X1_free : Cond.selects RX1 yX1_free yX1_free ∈ lw_g := z_mem (k := 236) rfl rfl
set_option maxRecDepth 100000 in
theorem mc_X1_shareWithOther : Cond.code yX1_shareWithOther cX1_shareWithOther 4 none ∈ lw_g := z_mem (k := 247) rfl rfl
theorem nd_X1_shareWithOther : yX1_shareWithOther.cls ≠ "java/lang/invoke/MethodHandle" ∧ yX1_shareWithOther.cls ≠ "java/lang/invoke/VarHandle" ∧ (parseMethodDescriptor yX1_shareWithOther.desc).map (fun d => d.parameters.length) = some 0 := by decide +kernel
set_option maxRecDepth 100000 in
theorem im_X1_shareWithOther : Cond.instanceMethod yX1_shareWithOther ∈ lw_g := z_mem (k := 246) rfl rfl
set_option maxRecDepth 100000 in
theorem se_X1_shareWithOther : Cond.selects RX1 yX1_shareWithOther yX1_shareWithOther ∈ lw_g := z_mem (k := 2) rfl rfl
set_option maxRecDepth 100000 in
theorem mc_X1_swap : Cond.code yX1_swap cX1_swap 1 none ∈ lw_g := z_mem (k := 254) rfl rfl
theorem nd_X1_swap : yX1_swap.cls ≠ "java/lang/invoke/MethodHandle" ∧ yX1_swap.cls ≠ "java/lang/invoke/VarHandle" ∧ (parseMethodDescriptor yX1_swap.desc).map (fun d => d.parameters.length) = some 0 := by decide +kernel
set_option maxRecDepth 100000 in
theorem im_X1_swap : Cond.instanceMethod yX1_swap ∈ lw_g := z_mem (k := 253) rfl rfl
set_option maxRecDepth 100000 in
theorem se_X1_swap : Cond.selects RX1 yX1_swap yX1_swap ∈ lw_g := z_mem (k := 3) rfl rfl
set_option maxRecDepth 100000 in
theorem mc_X1_lowerShared : Cond.code yX1_lowerShared cX1_lowerShared 13 none ∈ lw_g := z_mem (k := 258) rfl rfl
theorem nd_X1_lowerShared : yX1_lowerShared.cls ≠ "java/lang/invoke/MethodHandle" ∧ yX1_lowerShared.cls ≠ "java/lang/invoke/VarHandle" ∧ (parseMethodDescriptor yX1_lowerShared.desc).map (fun d => d.parameters.length) = some 2 := by decide +kernel
set_option maxRecDepth 100000 in
theorem im_X1_lowerShared : Cond.instanceMethod yX1_lowerShared ∈ lw_g := z_mem (k := 257) rfl rfl
set_option maxRecDepth 100000 in
theorem se_X1_lowerShared : Cond.selects RX1 yX1_lowerShared yX1_lowerShared ∈ lw_g := z_mem (k := 4) rfl rfl
set_option maxRecDepth 100000 in
theorem mc_X1_makePrimitive : Cond.code yX1_makePrimitive cX1_makePrimitive 6 none ∈ lw_g := z_mem (k := 265) rfl rfl
theorem nd_X1_makePrimitive : yX1_makePrimitive.cls ≠ "java/lang/invoke/MethodHandle" ∧ yX1_makePrimitive.cls ≠ "java/lang/invoke/VarHandle" ∧ (parseMethodDescriptor yX1_makePrimitive.desc).map (fun d => d.parameters.length) = some 1 := by decide +kernel
set_option maxRecDepth 100000 in
theorem im_X1_makePrimitive : Cond.instanceMethod yX1_makePrimitive ∈ lw_g := z_mem (k := 264) rfl rfl
set_option maxRecDepth 100000 in
theorem se_X1_makePrimitive : Cond.selects RX1 yX1_makePrimitive yX1_makePrimitive ∈ lw_g := z_mem (k := 5) rfl rfl
set_option maxRecDepth 100000 in
theorem mc_X1_divideByShared : Cond.code yX1_divideByShared cX1_divideByShared 7 none ∈ lw_g := z_mem (k := 269) rfl rfl
theorem nd_X1_divideByShared : yX1_divideByShared.cls ≠ "java/lang/invoke/MethodHandle" ∧ yX1_divideByShared.cls ≠ "java/lang/invoke/VarHandle" ∧ (parseMethodDescriptor yX1_divideByShared.desc).map (fun d => d.parameters.length) = some 1 := by decide +kernel
set_option maxRecDepth 100000 in
theorem im_X1_divideByShared : Cond.instanceMethod yX1_divideByShared ∈ lw_g := z_mem (k := 268) rfl rfl
set_option maxRecDepth 100000 in
theorem se_X1_divideByShared : Cond.selects RX1 yX1_divideByShared yX1_divideByShared ∈ lw_g := z_mem (k := 6) rfl rfl
set_option maxRecDepth 100000 in
theorem mc_X2_init : Cond.code yX2_init cX2_init 4 none ∈ lw_g := z_mem (k := 87) rfl rfl
theorem nd_X2_init : yX2_init.cls ≠ "java/lang/invoke/MethodHandle" ∧ yX2_init.cls ≠ "java/lang/invoke/VarHandle" ∧ (parseMethodDescriptor yX2_init.desc).map (fun d => d.parameters.length) = some 0 := by decide +kernel
set_option maxRecDepth 100000 in
theorem im_X2_init : Cond.instanceMethod yX2_init ∈ lw_g := z_mem (k := 86) rfl rfl
set_option maxRecDepth 100000 in
theorem mc_X2_takeMover : Cond.code yX2_takeMover cX2_takeMover 4 (some .int) ∈ lw_g := z_mem (k := 304) rfl rfl
theorem nd_X2_takeMover : yX2_takeMover.cls ≠ "java/lang/invoke/MethodHandle" ∧ yX2_takeMover.cls ≠ "java/lang/invoke/VarHandle" ∧ (parseMethodDescriptor yX2_takeMover.desc).map (fun d => d.parameters.length) = some 1 := by decide +kernel
set_option maxRecDepth 100000 in
theorem im_X2_takeMover : Cond.instanceMethod yX2_takeMover ∈ lw_g := z_mem (k := 302) rfl rfl
set_option maxRecDepth 100000 in
theorem se_X2_takeMover : Cond.selects RX2 yX2_takeMover yX2_takeMover ∈ lw_g := z_mem (k := 303) rfl rfl
set_option maxRecDepth 100000 in
theorem mc_X2_takeLines : Cond.code yX2_takeLines cX2_takeLines 4 (some .int) ∈ lw_g := z_mem (k := 326) rfl rfl
theorem nd_X2_takeLines : yX2_takeLines.cls ≠ "java/lang/invoke/MethodHandle" ∧ yX2_takeLines.cls ≠ "java/lang/invoke/VarHandle" ∧ (parseMethodDescriptor yX2_takeLines.desc).map (fun d => d.parameters.length) = some 1 := by decide +kernel
set_option maxRecDepth 100000 in
theorem im_X2_takeLines : Cond.instanceMethod yX2_takeLines ∈ lw_g := z_mem (k := 324) rfl rfl
set_option maxRecDepth 100000 in
theorem se_X2_takeLines : Cond.selects RX2 yX2_takeLines yX2_takeLines ∈ lw_g := z_mem (k := 325) rfl rfl
set_option maxRecDepth 100000 in
theorem mc_X2_setScaledLine : Cond.code yX2_setScaledLine cX2_setScaledLine 5 none ∈ lw_g := z_mem (k := 329) rfl rfl
theorem nd_X2_setScaledLine : yX2_setScaledLine.cls ≠ "java/lang/invoke/MethodHandle" ∧ yX2_setScaledLine.cls ≠ "java/lang/invoke/VarHandle" ∧ (parseMethodDescriptor yX2_setScaledLine.desc).map (fun d => d.parameters.length) = some 4 := by decide +kernel
set_option maxRecDepth 100000 in
theorem st_X2_setScaledLine : Cond.static yX2_setScaledLine ∈ lw_g := z_mem (k := 328) rfl rfl
set_option maxRecDepth 100000 in
theorem mc_X2_resultant : Cond.code yX2_resultant cX2_resultant 4 (some (.object "EliminateLoci$Plane")) ∈ lw_g := z_mem (k := 333) rfl rfl
theorem nd_X2_resultant : yX2_resultant.cls ≠ "java/lang/invoke/MethodHandle" ∧ yX2_resultant.cls ≠ "java/lang/invoke/VarHandle" ∧ (parseMethodDescriptor yX2_resultant.desc).map (fun d => d.parameters.length) = some 1 := by decide +kernel
set_option maxRecDepth 100000 in
theorem im_X2_resultant : Cond.instanceMethod yX2_resultant ∈ lw_g := z_mem (k := 331) rfl rfl
set_option maxRecDepth 100000 in
theorem se_X2_resultant : Cond.selects RX2 yX2_resultant yX2_resultant ∈ lw_g := z_mem (k := 332) rfl rfl
set_option maxRecDepth 100000 in
theorem mc_X2_fillEntry : Cond.code yX2_fillEntry cX2_fillEntry 7 none ∈ lw_g := z_mem (k := 337) rfl rfl
theorem nd_X2_fillEntry : yX2_fillEntry.cls ≠ "java/lang/invoke/MethodHandle" ∧ yX2_fillEntry.cls ≠ "java/lang/invoke/VarHandle" ∧ (parseMethodDescriptor yX2_fillEntry.desc).map (fun d => d.parameters.length) = some 3 := by decide +kernel
set_option maxRecDepth 100000 in
theorem im_X2_fillEntry : Cond.instanceMethod yX2_fillEntry ∈ lw_g := z_mem (k := 336) rfl rfl
set_option maxRecDepth 100000 in
theorem se_X2_fillEntry : Cond.selects RX2 yX2_fillEntry yX2_fillEntry ∈ lw_g := z_mem (k := 9) rfl rfl
set_option maxRecDepth 100000 in
theorem mc_X2_fillMinor : Cond.code yX2_fillMinor cX2_fillMinor 7 none ∈ lw_g := z_mem (k := 358) rfl rfl
theorem nd_X2_fillMinor : yX2_fillMinor.cls ≠ "java/lang/invoke/MethodHandle" ∧ yX2_fillMinor.cls ≠ "java/lang/invoke/VarHandle" ∧ (parseMethodDescriptor yX2_fillMinor.desc).map (fun d => d.parameters.length) = some 2 := by decide +kernel
set_option maxRecDepth 100000 in
theorem im_X2_fillMinor : Cond.instanceMethod yX2_fillMinor ∈ lw_g := z_mem (k := 357) rfl rfl
set_option maxRecDepth 100000 in
theorem se_X2_fillMinor : Cond.selects RX2 yX2_fillMinor yX2_fillMinor ∈ lw_g := z_mem (k := 10) rfl rfl
set_option maxRecDepth 100000 in
theorem mc_X3_init : Cond.code yX3_init cX3_init 1 none ∈ lw_g := z_mem (k := 94) rfl rfl
theorem nd_X3_init : yX3_init.cls ≠ "java/lang/invoke/MethodHandle" ∧ yX3_init.cls ≠ "java/lang/invoke/VarHandle" ∧ (parseMethodDescriptor yX3_init.desc).map (fun d => d.parameters.length) = some 0 := by decide +kernel
set_option maxRecDepth 100000 in
theorem im_X3_init : Cond.instanceMethod yX3_init ∈ lw_g := z_mem (k := 93) rfl rfl
set_option maxRecDepth 100000 in
theorem mc_X3_erase : Cond.code yX3_erase cX3_erase 1 none ∈ lw_g := z_mem (k := 318) rfl rfl
theorem nd_X3_erase : yX3_erase.cls ≠ "java/lang/invoke/MethodHandle" ∧ yX3_erase.cls ≠ "java/lang/invoke/VarHandle" ∧ (parseMethodDescriptor yX3_erase.desc).map (fun d => d.parameters.length) = some 0 := by decide +kernel
set_option maxRecDepth 100000 in
theorem im_X3_erase : Cond.instanceMethod yX3_erase ∈ lw_g := z_mem (k := 316) rfl rfl
set_option maxRecDepth 100000 in
theorem se_X3_erase : Cond.selects RX3 yX3_erase yX3_erase ∈ lw_g := z_mem (k := 317) rfl rfl
set_option maxRecDepth 100000 in
theorem mc_X3_setLine : Cond.code yX3_setLine cX3_setLine 7 none ∈ lw_g := z_mem (k := 314) rfl rfl
theorem nd_X3_setLine : yX3_setLine.cls ≠ "java/lang/invoke/MethodHandle" ∧ yX3_setLine.cls ≠ "java/lang/invoke/VarHandle" ∧ (parseMethodDescriptor yX3_setLine.desc).map (fun d => d.parameters.length) = some 3 := by decide +kernel
set_option maxRecDepth 100000 in
theorem im_X3_setLine : Cond.instanceMethod yX3_setLine ∈ lw_g := z_mem (k := 312) rfl rfl
set_option maxRecDepth 100000 in
theorem se_X3_setLine : Cond.selects RX3 yX3_setLine yX3_setLine ∈ lw_g := z_mem (k := 313) rfl rfl
set_option maxRecDepth 100000 in
theorem mc_X3_copy : Cond.code yX3_copy cX3_copy 2 none ∈ lw_g := z_mem (k := 372) rfl rfl
theorem nd_X3_copy : yX3_copy.cls ≠ "java/lang/invoke/MethodHandle" ∧ yX3_copy.cls ≠ "java/lang/invoke/VarHandle" ∧ (parseMethodDescriptor yX3_copy.desc).map (fun d => d.parameters.length) = some 1 := by decide +kernel
set_option maxRecDepth 100000 in
theorem im_X3_copy : Cond.instanceMethod yX3_copy ∈ lw_g := z_mem (k := 370) rfl rfl
set_option maxRecDepth 100000 in
theorem se_X3_copy : Cond.selects RX3 yX3_copy yX3_copy ∈ lw_g := z_mem (k := 371) rfl rfl
set_option maxRecDepth 100000 in
theorem mc_X3_addProduct : Cond.code yX3_addProduct cX3_addProduct 15 none ∈ lw_g := z_mem (k := 345) rfl rfl
theorem nd_X3_addProduct : yX3_addProduct.cls ≠ "java/lang/invoke/MethodHandle" ∧ yX3_addProduct.cls ≠ "java/lang/invoke/VarHandle" ∧ (parseMethodDescriptor yX3_addProduct.desc).map (fun d => d.parameters.length) = some 3 := by decide +kernel
set_option maxRecDepth 100000 in
theorem im_X3_addProduct : Cond.instanceMethod yX3_addProduct ∈ lw_g := z_mem (k := 343) rfl rfl
set_option maxRecDepth 100000 in
theorem se_X3_addProduct : Cond.selects RX3 yX3_addProduct yX3_addProduct ∈ lw_g := z_mem (k := 344) rfl rfl
set_option maxRecDepth 100000 in
theorem mc_X3_tighten : Cond.code yX3_tighten cX3_tighten 1 none ∈ lw_g := z_mem (k := 350) rfl rfl
theorem nd_X3_tighten : yX3_tighten.cls ≠ "java/lang/invoke/MethodHandle" ∧ yX3_tighten.cls ≠ "java/lang/invoke/VarHandle" ∧ (parseMethodDescriptor yX3_tighten.desc).map (fun d => d.parameters.length) = some 0 := by decide +kernel
set_option maxRecDepth 100000 in
theorem im_X3_tighten : Cond.instanceMethod yX3_tighten ∈ lw_g := z_mem (k := 348) rfl rfl
set_option maxRecDepth 100000 in
theorem se_X3_tighten : Cond.selects RX3 yX3_tighten yX3_tighten ∈ lw_g := z_mem (k := 349) rfl rfl
set_option maxRecDepth 100000 in
theorem mc_X3_firstOfBound : Cond.code yX3_firstOfBound cX3_firstOfBound 2 (some .int) ∈ lw_g := z_mem (k := 354) rfl rfl
theorem nd_X3_firstOfBound : yX3_firstOfBound.cls ≠ "java/lang/invoke/MethodHandle" ∧ yX3_firstOfBound.cls ≠ "java/lang/invoke/VarHandle" ∧ (parseMethodDescriptor yX3_firstOfBound.desc).map (fun d => d.parameters.length) = some 0 := by decide +kernel
set_option maxRecDepth 100000 in
theorem im_X3_firstOfBound : Cond.instanceMethod yX3_firstOfBound ∈ lw_g := z_mem (k := 352) rfl rfl
set_option maxRecDepth 100000 in
theorem se_X3_firstOfBound : Cond.selects RX3 yX3_firstOfBound yX3_firstOfBound ∈ lw_g := z_mem (k := 353) rfl rfl
set_option maxRecDepth 100000 in
theorem mc_X3_makePrimitive : Cond.code yX3_makePrimitive cX3_makePrimitive 5 none ∈ lw_g := z_mem (k := 377) rfl rfl
theorem nd_X3_makePrimitive : yX3_makePrimitive.cls ≠ "java/lang/invoke/MethodHandle" ∧ yX3_makePrimitive.cls ≠ "java/lang/invoke/VarHandle" ∧ (parseMethodDescriptor yX3_makePrimitive.desc).map (fun d => d.parameters.length) = some 0 := by decide +kernel
set_option maxRecDepth 100000 in
theorem im_X3_makePrimitive : Cond.instanceMethod yX3_makePrimitive ∈ lw_g := z_mem (k := 375) rfl rfl
set_option maxRecDepth 100000 in
theorem se_X3_makePrimitive : Cond.selects RX3 yX3_makePrimitive yX3_makePrimitive ∈ lw_g := z_mem (k := 376) rfl rfl
set_option maxRecDepth 100000 in
theorem mc_X3_sumOfSizes : Cond.code yX3_sumOfSizes cX3_sumOfSizes 4 (some .long) ∈ lw_g := z_mem (k := 401) rfl rfl
theorem nd_X3_sumOfSizes : yX3_sumOfSizes.cls ≠ "java/lang/invoke/MethodHandle" ∧ yX3_sumOfSizes.cls ≠ "java/lang/invoke/VarHandle" ∧ (parseMethodDescriptor yX3_sumOfSizes.desc).map (fun d => d.parameters.length) = some 0 := by decide +kernel
set_option maxRecDepth 100000 in
theorem im_X3_sumOfSizes : Cond.instanceMethod yX3_sumOfSizes ∈ lw_g := z_mem (k := 399) rfl rfl
set_option maxRecDepth 100000 in
theorem se_X3_sumOfSizes : Cond.selects RX3 yX3_sumOfSizes yX3_sumOfSizes ∈ lw_g := z_mem (k := 400) rfl rfl
set_option maxRecDepth 100000 in
theorem mc_X3_isSame : Cond.code yX3_isSame cX3_isSame 3 (some .boolean) ∈ lw_g := z_mem (k := 413) rfl rfl
theorem nd_X3_isSame : yX3_isSame.cls ≠ "java/lang/invoke/MethodHandle" ∧ yX3_isSame.cls ≠ "java/lang/invoke/VarHandle" ∧ (parseMethodDescriptor yX3_isSame.desc).map (fun d => d.parameters.length) = some 1 := by decide +kernel
set_option maxRecDepth 100000 in
theorem im_X3_isSame : Cond.instanceMethod yX3_isSame ∈ lw_g := z_mem (k := 411) rfl rfl
set_option maxRecDepth 100000 in
theorem se_X3_isSame : Cond.selects RX3 yX3_isSame yX3_isSame ∈ lw_g := z_mem (k := 412) rfl rfl
set_option maxRecDepth 100000 in
theorem mc_X3_scaledValue : Cond.code yX3_scaledValue cX3_scaledValue 15 (some .long) ∈ lw_g := z_mem (k := 433) rfl rfl
theorem nd_X3_scaledValue : yX3_scaledValue.cls ≠ "java/lang/invoke/MethodHandle" ∧ yX3_scaledValue.cls ≠ "java/lang/invoke/VarHandle" ∧ (parseMethodDescriptor yX3_scaledValue.desc).map (fun d => d.parameters.length) = some 3 := by decide +kernel
set_option maxRecDepth 100000 in
theorem im_X3_scaledValue : Cond.instanceMethod yX3_scaledValue ∈ lw_g := z_mem (k := 431) rfl rfl
set_option maxRecDepth 100000 in
theorem se_X3_scaledValue : Cond.selects RX3 yX3_scaledValue yX3_scaledValue ∈ lw_g := z_mem (k := 432) rfl rfl
set_option maxRecDepth 100000 in
theorem mc_X4_init : Cond.code yX4_init cX4_init 1 none ∈ lw_g := z_mem (k := 125) rfl rfl
theorem nd_X4_init : yX4_init.cls ≠ "java/lang/invoke/MethodHandle" ∧ yX4_init.cls ≠ "java/lang/invoke/VarHandle" ∧ (parseMethodDescriptor yX4_init.desc).map (fun d => d.parameters.length) = some 0 := by decide +kernel
set_option maxRecDepth 100000 in
theorem im_X4_init : Cond.instanceMethod yX4_init ∈ lw_g := z_mem (k := 124) rfl rfl
set_option maxRecDepth 100000 in
theorem mc_X4_findRoot : Cond.code yX4_findRoot cX4_findRoot 4 (some .boolean) ∈ lw_g := z_mem (k := 368) rfl rfl
theorem nd_X4_findRoot : yX4_findRoot.cls ≠ "java/lang/invoke/MethodHandle" ∧ yX4_findRoot.cls ≠ "java/lang/invoke/VarHandle" ∧ (parseMethodDescriptor yX4_findRoot.desc).map (fun d => d.parameters.length) = some 2 := by decide +kernel
set_option maxRecDepth 100000 in
theorem im_X4_findRoot : Cond.instanceMethod yX4_findRoot ∈ lw_g := z_mem (k := 366) rfl rfl
set_option maxRecDepth 100000 in
theorem se_X4_findRoot : Cond.selects RX4 yX4_findRoot yX4_findRoot ∈ lw_g := z_mem (k := 367) rfl rfl
set_option maxRecDepth 100000 in
theorem mc_X4_startRoot : Cond.code yX4_startRoot cX4_startRoot 7 (some .boolean) ∈ lw_g := z_mem (k := 383) rfl rfl
theorem nd_X4_startRoot : yX4_startRoot.cls ≠ "java/lang/invoke/MethodHandle" ∧ yX4_startRoot.cls ≠ "java/lang/invoke/VarHandle" ∧ (parseMethodDescriptor yX4_startRoot.desc).map (fun d => d.parameters.length) = some 1 := by decide +kernel
set_option maxRecDepth 100000 in
theorem im_X4_startRoot : Cond.instanceMethod yX4_startRoot ∈ lw_g := z_mem (k := 382) rfl rfl
set_option maxRecDepth 100000 in
theorem se_X4_startRoot : Cond.selects RX4 yX4_startRoot yX4_startRoot ∈ lw_g := z_mem (k := 11) rfl rfl
set_option maxRecDepth 100000 in
theorem mc_X4_completeRoot : Cond.code yX4_completeRoot cX4_completeRoot 14 (some .boolean) ∈ lw_g := z_mem (k := 397) rfl rfl
theorem nd_X4_completeRoot : yX4_completeRoot.cls ≠ "java/lang/invoke/MethodHandle" ∧ yX4_completeRoot.cls ≠ "java/lang/invoke/VarHandle" ∧ (parseMethodDescriptor yX4_completeRoot.desc).map (fun d => d.parameters.length) = some 1 := by decide +kernel
set_option maxRecDepth 100000 in
theorem im_X4_completeRoot : Cond.instanceMethod yX4_completeRoot ∈ lw_g := z_mem (k := 396) rfl rfl
set_option maxRecDepth 100000 in
theorem se_X4_completeRoot : Cond.selects RX4 yX4_completeRoot yX4_completeRoot ∈ lw_g := z_mem (k := 12) rfl rfl
set_option maxRecDepth 100000 in
theorem mc_X4_raiseRoot : Cond.code yX4_raiseRoot cX4_raiseRoot 3 none ∈ lw_g := z_mem (k := 408) rfl rfl
theorem nd_X4_raiseRoot : yX4_raiseRoot.cls ≠ "java/lang/invoke/MethodHandle" ∧ yX4_raiseRoot.cls ≠ "java/lang/invoke/VarHandle" ∧ (parseMethodDescriptor yX4_raiseRoot.desc).map (fun d => d.parameters.length) = some 1 := by decide +kernel
set_option maxRecDepth 100000 in
theorem im_X4_raiseRoot : Cond.instanceMethod yX4_raiseRoot ∈ lw_g := z_mem (k := 407) rfl rfl
set_option maxRecDepth 100000 in
theorem se_X4_raiseRoot : Cond.selects RX4 yX4_raiseRoot yX4_raiseRoot ∈ lw_g := z_mem (k := 13) rfl rfl
set_option maxRecDepth 100000 in
theorem mc_X5_init : Cond.code yX5_init cX5_init 1 none ∈ lw_g := z_mem (k := 55) rfl rfl
theorem nd_X5_init : yX5_init.cls ≠ "java/lang/invoke/MethodHandle" ∧ yX5_init.cls ≠ "java/lang/invoke/VarHandle" ∧ (parseMethodDescriptor yX5_init.desc).map (fun d => d.parameters.length) = some 0 := by decide +kernel
set_option maxRecDepth 100000 in
theorem im_X5_init : Cond.instanceMethod yX5_init ∈ lw_g := z_mem (k := 54) rfl rfl
set_option maxRecDepth 100000 in
theorem mc_X5_highestPower : Cond.code yX5_highestPower cX5_highestPower 2 (some .int) ∈ lw_g := z_mem (k := 229) rfl rfl
theorem nd_X5_highestPower : yX5_highestPower.cls ≠ "java/lang/invoke/MethodHandle" ∧ yX5_highestPower.cls ≠ "java/lang/invoke/VarHandle" ∧ (parseMethodDescriptor yX5_highestPower.desc).map (fun d => d.parameters.length) = some 0 := by decide +kernel
set_option maxRecDepth 100000 in
theorem im_X5_highestPower : Cond.instanceMethod yX5_highestPower ∈ lw_g := z_mem (k := 227) rfl rfl
set_option maxRecDepth 100000 in
theorem se_X5_highestPower : Cond.selects RX5 yX5_highestPower yX5_highestPower ∈ lw_g := z_mem (k := 228) rfl rfl
set_option maxRecDepth 100000 in
theorem mc_X5_isZero : Cond.code yX5_isZero cX5_isZero 2 (some .boolean) ∈ lw_g := z_mem (k := 308) rfl rfl
theorem nd_X5_isZero : yX5_isZero.cls ≠ "java/lang/invoke/MethodHandle" ∧ yX5_isZero.cls ≠ "java/lang/invoke/VarHandle" ∧ (parseMethodDescriptor yX5_isZero.desc).map (fun d => d.parameters.length) = some 1 := by decide +kernel
set_option maxRecDepth 100000 in
theorem im_X5_isZero : Cond.instanceMethod yX5_isZero ∈ lw_g := z_mem (k := 306) rfl rfl
set_option maxRecDepth 100000 in
theorem se_X5_isZero : Cond.selects RX5 yX5_isZero yX5_isZero ∈ lw_g := z_mem (k := 307) rfl rfl
set_option maxRecDepth 100000 in
theorem mc_X5_countAndErase : Cond.code yX5_countAndErase cX5_countAndErase 4 (some .int) ∈ lw_g := z_mem (k := 221) rfl rfl
theorem nd_X5_countAndErase : yX5_countAndErase.cls ≠ "java/lang/invoke/MethodHandle" ∧ yX5_countAndErase.cls ≠ "java/lang/invoke/VarHandle" ∧ (parseMethodDescriptor yX5_countAndErase.desc).map (fun d => d.parameters.length) = some 0 := by decide +kernel
set_option maxRecDepth 100000 in
theorem im_X5_countAndErase : Cond.instanceMethod yX5_countAndErase ∈ lw_g := z_mem (k := 219) rfl rfl
set_option maxRecDepth 100000 in
theorem se_X5_countAndErase : Cond.selects RX5 yX5_countAndErase yX5_countAndErase ∈ lw_g := z_mem (k := 220) rfl rfl
set_option maxRecDepth 100000 in
theorem mc_X5_topOf : Cond.code yX5_topOf cX5_topOf 2 (some .int) ∈ lw_g := z_mem (k := 250) rfl rfl
theorem nd_X5_topOf : yX5_topOf.cls ≠ "java/lang/invoke/MethodHandle" ∧ yX5_topOf.cls ≠ "java/lang/invoke/VarHandle" ∧ (parseMethodDescriptor yX5_topOf.desc).map (fun d => d.parameters.length) = some 1 := by decide +kernel
set_option maxRecDepth 100000 in
theorem st_X5_topOf : Cond.static yX5_topOf ∈ lw_g := z_mem (k := 249) rfl rfl
set_option maxRecDepth 100000 in
theorem mc_X6_init : Cond.code yX6_init cX6_init 1 none ∈ lw_g := z_mem (k := 47) rfl rfl
theorem nd_X6_init : yX6_init.cls ≠ "java/lang/invoke/MethodHandle" ∧ yX6_init.cls ≠ "java/lang/invoke/VarHandle" ∧ (parseMethodDescriptor yX6_init.desc).map (fun d => d.parameters.length) = some 0 := by decide +kernel
set_option maxRecDepth 100000 in
theorem im_X6_init : Cond.instanceMethod yX6_init ∈ lw_g := z_mem (k := 46) rfl rfl
set_option maxRecDepth 100000 in
theorem mc_X6_term : Cond.code yX6_term cX6_term 5 (some .int) ∈ lw_g := z_mem (k := 200) rfl rfl
theorem nd_X6_term : yX6_term.cls ≠ "java/lang/invoke/MethodHandle" ∧ yX6_term.cls ≠ "java/lang/invoke/VarHandle" ∧ (parseMethodDescriptor yX6_term.desc).map (fun d => d.parameters.length) = some 3 := by decide +kernel
set_option maxRecDepth 100000 in
theorem im_X6_term : Cond.instanceMethod yX6_term ∈ lw_g := z_mem (k := 198) rfl rfl
set_option maxRecDepth 100000 in
theorem se_X6_term : Cond.selects RX6 yX6_term yX6_term ∈ lw_g := z_mem (k := 199) rfl rfl
set_option maxRecDepth 100000 in
theorem mc_X6_clear : Cond.code yX6_clear cX6_clear 2 (some .int) ∈ lw_g := z_mem (k := 217) rfl rfl
theorem nd_X6_clear : yX6_clear.cls ≠ "java/lang/invoke/MethodHandle" ∧ yX6_clear.cls ≠ "java/lang/invoke/VarHandle" ∧ (parseMethodDescriptor yX6_clear.desc).map (fun d => d.parameters.length) = some 0 := by decide +kernel
set_option maxRecDepth 100000 in
theorem im_X6_clear : Cond.instanceMethod yX6_clear ∈ lw_g := z_mem (k := 215) rfl rfl
set_option maxRecDepth 100000 in
theorem se_X6_clear : Cond.selects RX6 yX6_clear yX6_clear ∈ lw_g := z_mem (k := 216) rfl rfl
set_option maxRecDepth 100000 in
theorem mc_X6_degree : Cond.code yX6_degree cX6_degree 4 (some .int) ∈ lw_g := z_mem (k := 225) rfl rfl
theorem nd_X6_degree : yX6_degree.cls ≠ "java/lang/invoke/MethodHandle" ∧ yX6_degree.cls ≠ "java/lang/invoke/VarHandle" ∧ (parseMethodDescriptor yX6_degree.desc).map (fun d => d.parameters.length) = some 1 := by decide +kernel
set_option maxRecDepth 100000 in
theorem im_X6_degree : Cond.instanceMethod yX6_degree ∈ lw_g := z_mem (k := 223) rfl rfl
set_option maxRecDepth 100000 in
theorem se_X6_degree : Cond.selects RX6 yX6_degree yX6_degree ∈ lw_g := z_mem (k := 224) rfl rfl
set_option maxRecDepth 100000 in
theorem mc_X6_freed : Cond.code yX6_freed cX6_freed 3 (some .int) ∈ lw_g := z_mem (k := 273) rfl rfl
theorem nd_X6_freed : yX6_freed.cls ≠ "java/lang/invoke/MethodHandle" ∧ yX6_freed.cls ≠ "java/lang/invoke/VarHandle" ∧ (parseMethodDescriptor yX6_freed.desc).map (fun d => d.parameters.length) = some 2 := by decide +kernel
set_option maxRecDepth 100000 in
theorem im_X6_freed : Cond.instanceMethod yX6_freed ∈ lw_g := z_mem (k := 271) rfl rfl
set_option maxRecDepth 100000 in
theorem se_X6_freed : Cond.selects RX6 yX6_freed yX6_freed ∈ lw_g := z_mem (k := 272) rfl rfl
set_option maxRecDepth 100000 in
theorem mc_X6_value : Cond.code yX6_value cX6_value 6 (some .int) ∈ lw_g := z_mem (k := 278) rfl rfl
theorem nd_X6_value : yX6_value.cls ≠ "java/lang/invoke/MethodHandle" ∧ yX6_value.cls ≠ "java/lang/invoke/VarHandle" ∧ (parseMethodDescriptor yX6_value.desc).map (fun d => d.parameters.length) = some 3 := by decide +kernel
set_option maxRecDepth 100000 in
theorem im_X6_value : Cond.instanceMethod yX6_value ∈ lw_g := z_mem (k := 276) rfl rfl
set_option maxRecDepth 100000 in
theorem se_X6_value : Cond.selects RX6 yX6_value yX6_value ∈ lw_g := z_mem (k := 277) rfl rfl
set_option maxRecDepth 100000 in
theorem mc_X6_trace : Cond.code yX6_trace cX6_trace 3 (some .int) ∈ lw_g := z_mem (k := 293) rfl rfl
theorem nd_X6_trace : yX6_trace.cls ≠ "java/lang/invoke/MethodHandle" ∧ yX6_trace.cls ≠ "java/lang/invoke/VarHandle" ∧ (parseMethodDescriptor yX6_trace.desc).map (fun d => d.parameters.length) = some 1 := by decide +kernel
set_option maxRecDepth 100000 in
theorem im_X6_trace : Cond.instanceMethod yX6_trace ∈ lw_g := z_mem (k := 291) rfl rfl
set_option maxRecDepth 100000 in
theorem se_X6_trace : Cond.selects RX6 yX6_trace yX6_trace ∈ lw_g := z_mem (k := 292) rfl rfl
set_option maxRecDepth 100000 in
theorem mc_X6_times : Cond.code yX6_times cX6_times 3 (some .int) ∈ lw_g := z_mem (k := 417) rfl rfl
theorem nd_X6_times : yX6_times.cls ≠ "java/lang/invoke/MethodHandle" ∧ yX6_times.cls ≠ "java/lang/invoke/VarHandle" ∧ (parseMethodDescriptor yX6_times.desc).map (fun d => d.parameters.length) = some 1 := by decide +kernel
set_option maxRecDepth 100000 in
theorem im_X6_times : Cond.instanceMethod yX6_times ∈ lw_g := z_mem (k := 415) rfl rfl
set_option maxRecDepth 100000 in
theorem se_X6_times : Cond.selects RX6 yX6_times yX6_times ∈ lw_g := z_mem (k := 416) rfl rfl
set_option maxRecDepth 100000 in
theorem mc_X6_coefficient : Cond.code yX6_coefficient cX6_coefficient 5 (some .long) ∈ lw_g := z_mem (k := 421) rfl rfl
theorem nd_X6_coefficient : yX6_coefficient.cls ≠ "java/lang/invoke/MethodHandle" ∧ yX6_coefficient.cls ≠ "java/lang/invoke/VarHandle" ∧ (parseMethodDescriptor yX6_coefficient.desc).map (fun d => d.parameters.length) = some 3 := by decide +kernel
set_option maxRecDepth 100000 in
theorem im_X6_coefficient : Cond.instanceMethod yX6_coefficient ∈ lw_g := z_mem (k := 419) rfl rfl
set_option maxRecDepth 100000 in
theorem se_X6_coefficient : Cond.selects RX6 yX6_coefficient yX6_coefficient ∈ lw_g := z_mem (k := 420) rfl rfl
set_option maxRecDepth 100000 in
theorem mc_X6_side : Cond.code yX6_side cX6_side 8 (some .int) ∈ lw_g := z_mem (k := 426) rfl rfl
theorem nd_X6_side : yX6_side.cls ≠ "java/lang/invoke/MethodHandle" ∧ yX6_side.cls ≠ "java/lang/invoke/VarHandle" ∧ (parseMethodDescriptor yX6_side.desc).map (fun d => d.parameters.length) = some 4 := by decide +kernel
set_option maxRecDepth 100000 in
theorem im_X6_side : Cond.instanceMethod yX6_side ∈ lw_g := z_mem (k := 424) rfl rfl
set_option maxRecDepth 100000 in
theorem se_X6_side : Cond.selects RX6 yX6_side yX6_side ∈ lw_g := z_mem (k := 425) rfl rfl
set_option maxRecDepth 100000 in
theorem mc_X6_at : Cond.code yX6_at cX6_at 7 (some .int) ∈ lw_g := z_mem (k := 438) rfl rfl
theorem nd_X6_at : yX6_at.cls ≠ "java/lang/invoke/MethodHandle" ∧ yX6_at.cls ≠ "java/lang/invoke/VarHandle" ∧ (parseMethodDescriptor yX6_at.desc).map (fun d => d.parameters.length) = some 5 := by decide +kernel
set_option maxRecDepth 100000 in
theorem im_X6_at : Cond.instanceMethod yX6_at ∈ lw_g := z_mem (k := 436) rfl rfl
set_option maxRecDepth 100000 in
theorem se_X6_at : Cond.selects RX6 yX6_at yX6_at ∈ lw_g := z_mem (k := 437) rfl rfl
set_option maxRecDepth 100000 in
theorem mc_X6_follows : Cond.code yX6_follows cX6_follows 3 (some .int) ∈ lw_g := z_mem (k := 442) rfl rfl
theorem nd_X6_follows : yX6_follows.cls ≠ "java/lang/invoke/MethodHandle" ∧ yX6_follows.cls ≠ "java/lang/invoke/VarHandle" ∧ (parseMethodDescriptor yX6_follows.desc).map (fun d => d.parameters.length) = some 2 := by decide +kernel
set_option maxRecDepth 100000 in
theorem im_X6_follows : Cond.instanceMethod yX6_follows ∈ lw_g := z_mem (k := 440) rfl rfl
set_option maxRecDepth 100000 in
theorem se_X6_follows : Cond.selects RX6 yX6_follows yX6_follows ∈ lw_g := z_mem (k := 441) rfl rfl
set_option maxRecDepth 100000 in
theorem mc_X6_touches : Cond.code yX6_touches cX6_touches 6 (some .int) ∈ lw_g := z_mem (k := 446) rfl rfl
theorem nd_X6_touches : yX6_touches.cls ≠ "java/lang/invoke/MethodHandle" ∧ yX6_touches.cls ≠ "java/lang/invoke/VarHandle" ∧ (parseMethodDescriptor yX6_touches.desc).map (fun d => d.parameters.length) = some 2 := by decide +kernel
set_option maxRecDepth 100000 in
theorem im_X6_touches : Cond.instanceMethod yX6_touches ∈ lw_g := z_mem (k := 444) rfl rfl
set_option maxRecDepth 100000 in
theorem se_X6_touches : Cond.selects RX6 yX6_touches yX6_touches ∈ lw_g := z_mem (k := 445) rfl rfl
set_option maxRecDepth 100000 in
theorem mc_X6_isPart : Cond.code yX6_isPart cX6_isPart 1 (some .boolean) ∈ lw_g := z_mem (k := 203) rfl rfl
theorem nd_X6_isPart : yX6_isPart.cls ≠ "java/lang/invoke/MethodHandle" ∧ yX6_isPart.cls ≠ "java/lang/invoke/VarHandle" ∧ (parseMethodDescriptor yX6_isPart.desc).map (fun d => d.parameters.length) = some 1 := by decide +kernel
set_option maxRecDepth 100000 in
theorem st_X6_isPart : Cond.static yX6_isPart ∈ lw_g := z_mem (k := 202) rfl rfl
set_option maxRecDepth 100000 in
theorem mc_X6_isPower : Cond.code yX6_isPower cX6_isPower 1 (some .boolean) ∈ lw_g := z_mem (k := 206) rfl rfl
theorem nd_X6_isPower : yX6_isPower.cls ≠ "java/lang/invoke/MethodHandle" ∧ yX6_isPower.cls ≠ "java/lang/invoke/VarHandle" ∧ (parseMethodDescriptor yX6_isPower.desc).map (fun d => d.parameters.length) = some 1 := by decide +kernel
set_option maxRecDepth 100000 in
theorem st_X6_isPower : Cond.static yX6_isPower ∈ lw_g := z_mem (k := 205) rfl rfl
set_option maxRecDepth 100000 in
theorem mc_X6_isSort : Cond.code yX6_isSort cX6_isSort 1 (some .boolean) ∈ lw_g := z_mem (k := 296) rfl rfl
theorem nd_X6_isSort : yX6_isSort.cls ≠ "java/lang/invoke/MethodHandle" ∧ yX6_isSort.cls ≠ "java/lang/invoke/VarHandle" ∧ (parseMethodDescriptor yX6_isSort.desc).map (fun d => d.parameters.length) = some 1 := by decide +kernel
set_option maxRecDepth 100000 in
theorem st_X6_isSort : Cond.static yX6_isSort ∈ lw_g := z_mem (k := 295) rfl rfl
set_option maxRecDepth 100000 in
theorem mc_X6_isWithin : Cond.code yX6_isWithin cX6_isWithin 2 (some .boolean) ∈ lw_g := z_mem (k := 209) rfl rfl
theorem nd_X6_isWithin : yX6_isWithin.cls ≠ "java/lang/invoke/MethodHandle" ∧ yX6_isWithin.cls ≠ "java/lang/invoke/VarHandle" ∧ (parseMethodDescriptor yX6_isWithin.desc).map (fun d => d.parameters.length) = some 2 := by decide +kernel
set_option maxRecDepth 100000 in
theorem st_X6_isWithin : Cond.static yX6_isWithin ∈ lw_g := z_mem (k := 208) rfl rfl
set_option maxRecDepth 100000 in
theorem mc_X6_isParameter : Cond.code yX6_isParameter cX6_isParameter 2 (some .boolean) ∈ lw_g := z_mem (k := 281) rfl rfl
theorem nd_X6_isParameter : yX6_isParameter.cls ≠ "java/lang/invoke/MethodHandle" ∧ yX6_isParameter.cls ≠ "java/lang/invoke/VarHandle" ∧ (parseMethodDescriptor yX6_isParameter.desc).map (fun d => d.parameters.length) = some 2 := by decide +kernel
set_option maxRecDepth 100000 in
theorem st_X6_isParameter : Cond.static yX6_isParameter ∈ lw_g := z_mem (k := 280) rfl rfl
set_option maxRecDepth 100000 in
theorem mc_X6_isPlace : Cond.code yX6_isPlace cX6_isPlace 3 (some .boolean) ∈ lw_g := z_mem (k := 429) rfl rfl
theorem nd_X6_isPlace : yX6_isPlace.cls ≠ "java/lang/invoke/MethodHandle" ∧ yX6_isPlace.cls ≠ "java/lang/invoke/VarHandle" ∧ (parseMethodDescriptor yX6_isPlace.desc).map (fun d => d.parameters.length) = some 3 := by decide +kernel
set_option maxRecDepth 100000 in
theorem st_X6_isPlace : Cond.static yX6_isPlace ∈ lw_g := z_mem (k := 428) rfl rfl
set_option maxRecDepth 100000 in
theorem mc_X6_forget : Cond.code yX6_forget cX6_forget 1 none ∈ lw_g := z_mem (k := 213) rfl rfl
theorem nd_X6_forget : yX6_forget.cls ≠ "java/lang/invoke/MethodHandle" ∧ yX6_forget.cls ≠ "java/lang/invoke/VarHandle" ∧ (parseMethodDescriptor yX6_forget.desc).map (fun d => d.parameters.length) = some 0 := by decide +kernel
set_option maxRecDepth 100000 in
theorem im_X6_forget : Cond.instanceMethod yX6_forget ∈ lw_g := z_mem (k := 212) rfl rfl
set_option maxRecDepth 100000 in
theorem se_X6_forget : Cond.selects RX6 yX6_forget yX6_forget ∈ lw_g := z_mem (k := 0) rfl rfl
set_option maxRecDepth 100000 in
theorem mc_X6_freeRow : Cond.code yX6_freeRow cX6_freeRow 1 (some (.object "EliminateLoci$Row")) ∈ lw_g := z_mem (k := 233) rfl rfl
theorem nd_X6_freeRow : yX6_freeRow.cls ≠ "java/lang/invoke/MethodHandle" ∧ yX6_freeRow.cls ≠ "java/lang/invoke/VarHandle" ∧ (parseMethodDescriptor yX6_freeRow.desc).map (fun d => d.parameters.length) = some 0 := by decide +kernel
set_option maxRecDepth 100000 in
theorem im_X6_freeRow : Cond.instanceMethod yX6_freeRow ∈ lw_g := z_mem (k := 232) rfl rfl
set_option maxRecDepth 100000 in
theorem se_X6_freeRow : Cond.selects RX6 yX6_freeRow yX6_freeRow ∈ lw_g := z_mem (k := 1) rfl rfl
set_option maxRecDepth 100000 in
theorem mc_X6_curveOf : Cond.code yX6_curveOf cX6_curveOf 4 (some (.object "EliminateLoci$Curve")) ∈ lw_g := z_mem (k := 300) rfl rfl
theorem nd_X6_curveOf : yX6_curveOf.cls ≠ "java/lang/invoke/MethodHandle" ∧ yX6_curveOf.cls ≠ "java/lang/invoke/VarHandle" ∧ (parseMethodDescriptor yX6_curveOf.desc).map (fun d => d.parameters.length) = some 1 := by decide +kernel
set_option maxRecDepth 100000 in
theorem im_X6_curveOf : Cond.instanceMethod yX6_curveOf ∈ lw_g := z_mem (k := 299) rfl rfl
set_option maxRecDepth 100000 in
theorem se_X6_curveOf : Cond.selects RX6 yX6_curveOf yX6_curveOf ∈ lw_g := z_mem (k := 8) rfl rfl
set_option maxRecDepth 100000 in
theorem mc_X6_moveTo : Cond.code yX6_moveTo cX6_moveTo 8 none ∈ lw_g := z_mem (k := 285) rfl rfl
theorem nd_X6_moveTo : yX6_moveTo.cls ≠ "java/lang/invoke/MethodHandle" ∧ yX6_moveTo.cls ≠ "java/lang/invoke/VarHandle" ∧ (parseMethodDescriptor yX6_moveTo.desc).map (fun d => d.parameters.length) = some 2 := by decide +kernel
set_option maxRecDepth 100000 in
theorem im_X6_moveTo : Cond.instanceMethod yX6_moveTo ∈ lw_g := z_mem (k := 284) rfl rfl
set_option maxRecDepth 100000 in
theorem se_X6_moveTo : Cond.selects RX6 yX6_moveTo yX6_moveTo ∈ lw_g := z_mem (k := 7) rfl rfl
set_option maxRecDepth 100000 in
theorem mc_X6_slopeByU : Cond.code yX6_slopeByU cX6_slopeByU 8 (some .long) ∈ lw_g := z_mem (k := 450) rfl rfl
theorem nd_X6_slopeByU : yX6_slopeByU.cls ≠ "java/lang/invoke/MethodHandle" ∧ yX6_slopeByU.cls ≠ "java/lang/invoke/VarHandle" ∧ (parseMethodDescriptor yX6_slopeByU.desc).map (fun d => d.parameters.length) = some 4 := by decide +kernel
set_option maxRecDepth 100000 in
theorem im_X6_slopeByU : Cond.instanceMethod yX6_slopeByU ∈ lw_g := z_mem (k := 449) rfl rfl
set_option maxRecDepth 100000 in
theorem se_X6_slopeByU : Cond.selects RX6 yX6_slopeByU yX6_slopeByU ∈ lw_g := z_mem (k := 14) rfl rfl
set_option maxRecDepth 100000 in
theorem mc_X6_slopeByV : Cond.code yX6_slopeByV cX6_slopeByV 8 (some .long) ∈ lw_g := z_mem (k := 454) rfl rfl
theorem nd_X6_slopeByV : yX6_slopeByV.cls ≠ "java/lang/invoke/MethodHandle" ∧ yX6_slopeByV.cls ≠ "java/lang/invoke/VarHandle" ∧ (parseMethodDescriptor yX6_slopeByV.desc).map (fun d => d.parameters.length) = some 4 := by decide +kernel
set_option maxRecDepth 100000 in
theorem im_X6_slopeByV : Cond.instanceMethod yX6_slopeByV ∈ lw_g := z_mem (k := 453) rfl rfl
set_option maxRecDepth 100000 in
theorem se_X6_slopeByV : Cond.selects RX6 yX6_slopeByV yX6_slopeByV ∈ lw_g := z_mem (k := 15) rfl rfl
set_option maxRecDepth 100000 in
theorem mc_X6_powerOf : Cond.code yX6_powerOf cX6_powerOf 6 (some .long) ∈ lw_g := z_mem (k := 288) rfl rfl
theorem nd_X6_powerOf : yX6_powerOf.cls ≠ "java/lang/invoke/MethodHandle" ∧ yX6_powerOf.cls ≠ "java/lang/invoke/VarHandle" ∧ (parseMethodDescriptor yX6_powerOf.desc).map (fun d => d.parameters.length) = some 2 := by decide +kernel
set_option maxRecDepth 100000 in
theorem st_X6_powerOf : Cond.static yX6_powerOf ∈ lw_g := z_mem (k := 287) rfl rfl
set_option maxRecDepth 100000 in
theorem mc_X6_commonOf : Cond.code yX6_commonOf cX6_commonOf 11 (some .long) ∈ lw_g := z_mem (k := 261) rfl rfl
theorem nd_X6_commonOf : yX6_commonOf.cls ≠ "java/lang/invoke/MethodHandle" ∧ yX6_commonOf.cls ≠ "java/lang/invoke/VarHandle" ∧ (parseMethodDescriptor yX6_commonOf.desc).map (fun d => d.parameters.length) = some 2 := by decide +kernel
set_option maxRecDepth 100000 in
theorem st_X6_commonOf : Cond.static yX6_commonOf ∈ lw_g := z_mem (k := 260) rfl rfl
set_option maxRecDepth 100000 in
theorem mc_X6_rootOf : Cond.code yX6_rootOf cX6_rootOf 8 (some .long) ∈ lw_g := z_mem (k := 388) rfl rfl
theorem nd_X6_rootOf : yX6_rootOf.cls ≠ "java/lang/invoke/MethodHandle" ∧ yX6_rootOf.cls ≠ "java/lang/invoke/VarHandle" ∧ (parseMethodDescriptor yX6_rootOf.desc).map (fun d => d.parameters.length) = some 2 := by decide +kernel
set_option maxRecDepth 100000 in
theorem st_X6_rootOf : Cond.static yX6_rootOf ∈ lw_g := z_mem (k := 387) rfl rfl
set_option maxRecDepth 100000 in
theorem mc_X6_isPowerWithin : Cond.code yX6_isPowerWithin cX6_isPowerWithin 8 (some .boolean) ∈ lw_g := z_mem (k := 391) rfl rfl
theorem nd_X6_isPowerWithin : yX6_isPowerWithin.cls ≠ "java/lang/invoke/MethodHandle" ∧ yX6_isPowerWithin.cls ≠ "java/lang/invoke/VarHandle" ∧ (parseMethodDescriptor yX6_isPowerWithin.desc).map (fun d => d.parameters.length) = some 3 := by decide +kernel
set_option maxRecDepth 100000 in
theorem st_X6_isPowerWithin : Cond.static yX6_isPowerWithin ∈ lw_g := z_mem (k := 390) rfl rfl
set_option maxRecDepth 100000 in
theorem mc_X6_slotOf : Cond.code yX6_slotOf cX6_slotOf 2 (some .int) ∈ lw_g := z_mem (k := 322) rfl rfl
theorem nd_X6_slotOf : yX6_slotOf.cls ≠ "java/lang/invoke/MethodHandle" ∧ yX6_slotOf.cls ≠ "java/lang/invoke/VarHandle" ∧ (parseMethodDescriptor yX6_slotOf.desc).map (fun d => d.parameters.length) = some 2 := by decide +kernel
set_option maxRecDepth 100000 in
theorem st_X6_slotOf : Cond.static yX6_slotOf ∈ lw_g := z_mem (k := 321) rfl rfl
set_option maxRecDepth 100000 in
theorem mc_J6_bitCount_0f7a4 : Cond.code yJ6_bitCount_0f7a4 cJ6_bitCount_0f7a4 1 (some .int) ∈ lw_g := z_mem (k := 361) rfl rfl
theorem nd_J6_bitCount_0f7a4 : yJ6_bitCount_0f7a4.cls ≠ "java/lang/invoke/MethodHandle" ∧ yJ6_bitCount_0f7a4.cls ≠ "java/lang/invoke/VarHandle" ∧ (parseMethodDescriptor yJ6_bitCount_0f7a4.desc).map (fun d => d.parameters.length) = some 1 := by decide +kernel
set_option maxRecDepth 100000 in
theorem st_J6_bitCount_0f7a4 : Cond.static yJ6_bitCount_0f7a4 ∈ lw_g := z_mem (k := 360) rfl rfl
set_option maxRecDepth 100000 in
theorem mc_J9_abs_067f4 : Cond.code yJ9_abs_067f4 cJ9_abs_067f4 2 (some .long) ∈ lw_g := z_mem (k := 404) rfl rfl
theorem nd_J9_abs_067f4 : yJ9_abs_067f4.cls ≠ "java/lang/invoke/MethodHandle" ∧ yJ9_abs_067f4.cls ≠ "java/lang/invoke/VarHandle" ∧ (parseMethodDescriptor yJ9_abs_067f4.desc).map (fun d => d.parameters.length) = some 1 := by decide +kernel
set_option maxRecDepth 100000 in
theorem st_J9_abs_067f4 : Cond.static yJ9_abs_067f4 ∈ lw_g := z_mem (k := 403) rfl rfl
set_option maxRecDepth 100000 in
theorem mc_J9_min_7cf53 : Cond.code yJ9_min_7cf53 cJ9_min_7cf53 2 (some .int) ∈ lw_g := z_mem (k := 341) rfl rfl
theorem nd_J9_min_7cf53 : yJ9_min_7cf53.cls ≠ "java/lang/invoke/MethodHandle" ∧ yJ9_min_7cf53.cls ≠ "java/lang/invoke/VarHandle" ∧ (parseMethodDescriptor yJ9_min_7cf53.desc).map (fun d => d.parameters.length) = some 2 := by decide +kernel
set_option maxRecDepth 100000 in
theorem st_J9_min_7cf53 : Cond.static yJ9_min_7cf53 ∈ lw_g := z_mem (k := 340) rfl rfl
set_option maxRecDepth 100000 in
theorem mc_J7_fill_d0a16 : Cond.code yJ7_fill_d0a16 cJ7_fill_d0a16 5 none ∈ lw_g := z_mem (k := 240) rfl rfl
theorem nd_J7_fill_d0a16 : yJ7_fill_d0a16.cls ≠ "java/lang/invoke/MethodHandle" ∧ yJ7_fill_d0a16.cls ≠ "java/lang/invoke/VarHandle" ∧ (parseMethodDescriptor yJ7_fill_d0a16.desc).map (fun d => d.parameters.length) = some 2 := by decide +kernel
set_option maxRecDepth 100000 in
theorem st_J7_fill_d0a16 : Cond.static yJ7_fill_d0a16 ∈ lw_g := z_mem (k := 239) rfl rfl
