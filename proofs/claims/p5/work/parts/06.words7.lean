set_option maxRecDepth 100000 in
theorem ini_X7 : Cond.initialized RX7 ∈ lw_g := z_mem (k := 38) rfl rfl
theorem inX7 : ∀ x ∈ u_ws RX7 TX7 17, x ∈ lw_g := by
  have h : (u_ws RX7 TX7 17).all (fun x => decide (x ∈ lw_tbl) && goodWord x) = true := by decide +kernel
  intro x hx
  have h1 := List.all_eq_true.mp h x hx
  simp only [Bool.and_eq_true, decide_eq_true_eq] at h1
  exact z_memD h1.1 h1.2
set_option maxRecDepth 100000 in
theorem fl_X7_7 : Cond.fieldLink RX7 7 "EliminateLociModel" "row" "[I" ∈ lw_g := z_mem (k := 461) rfl rfl
set_option maxRecDepth 100000 in
theorem fl_X7_13 : Cond.fieldLink RX7 13 "EliminateLociModel" "free" "[J" ∈ lw_g := z_mem (k := 462) rfl rfl
set_option maxRecDepth 100000 in
theorem fl_X7_70 : Cond.fieldLink RX7 70 "EliminateLociModel" "most" "I" ∈ lw_g := z_mem (k := 463) rfl rfl
set_option maxRecDepth 100000 in
theorem fl_X7_77 : Cond.fieldLink RX7 77 "EliminateLociModel" "freeMost" "I" ∈ lw_g := z_mem (k := 464) rfl rfl
set_option maxRecDepth 100000 in
theorem fl_X7_54 : Cond.fieldLink RX7 54 "EliminateLociModel" "known" "Z" ∈ lw_g := z_mem (k := 465) rfl rfl
set_option maxRecDepth 100000 in
theorem fl_X7_17 : Cond.fieldLink RX7 17 "EliminateLociModel" "has" "[Z" ∈ lw_g := z_mem (k := 466) rfl rfl
set_option maxRecDepth 100000 in
theorem fl_X7_21 : Cond.fieldLink RX7 21 "EliminateLociModel" "traces" "[J" ∈ lw_g := z_mem (k := 467) rfl rfl
set_option maxRecDepth 100000 in
theorem fl_X7_24 : Cond.fieldLink RX7 24 "EliminateLociModel" "degrees" "[I" ∈ lw_g := z_mem (k := 468) rfl rfl
set_option maxRecDepth 100000 in
theorem fl_X7_27 : Cond.fieldLink RX7 27 "EliminateLociModel" "powers" "[I" ∈ lw_g := z_mem (k := 469) rfl rfl
set_option maxRecDepth 100000 in
theorem fl_X7_30 : Cond.fieldLink RX7 30 "EliminateLociModel" "one" "[J" ∈ lw_g := z_mem (k := 470) rfl rfl
set_option maxRecDepth 100000 in
theorem fl_X7_33 : Cond.fieldLink RX7 33 "EliminateLociModel" "two" "[J" ∈ lw_g := z_mem (k := 471) rfl rfl
set_option maxRecDepth 100000 in
theorem fl_X7_36 : Cond.fieldLink RX7 36 "EliminateLociModel" "entries" "[J" ∈ lw_g := z_mem (k := 472) rfl rfl
set_option maxRecDepth 100000 in
theorem fl_X7_39 : Cond.fieldLink RX7 39 "EliminateLociModel" "minors" "[J" ∈ lw_g := z_mem (k := 473) rfl rfl
set_option maxRecDepth 100000 in
theorem fl_X7_42 : Cond.fieldLink RX7 42 "EliminateLociModel" "whole" "[J" ∈ lw_g := z_mem (k := 474) rfl rfl
set_option maxRecDepth 100000 in
theorem fl_X7_45 : Cond.fieldLink RX7 45 "EliminateLociModel" "root" "[J" ∈ lw_g := z_mem (k := 475) rfl rfl
set_option maxRecDepth 100000 in
theorem fl_X7_48 : Cond.fieldLink RX7 48 "EliminateLociModel" "power" "[J" ∈ lw_g := z_mem (k := 476) rfl rfl
set_option maxRecDepth 100000 in
theorem fl_X7_51 : Cond.fieldLink RX7 51 "EliminateLociModel" "other" "[J" ∈ lw_g := z_mem (k := 477) rfl rfl
set_option maxRecDepth 100000 in
theorem ml_X7_130 : Cond.methodLink RX7 130 yX7_work ∈ lw_g := z_mem (k := 527) rfl rfl
set_option maxRecDepth 100000 in
theorem ml_X7_74 : Cond.methodLink RX7 74 yX7_divisor ∈ lw_g := z_mem (k := 531) rfl rfl
set_option maxRecDepth 100000 in
theorem ml_X7_66 : Cond.methodLink RX7 66 yX7_reduce ∈ lw_g := z_mem (k := 535) rfl rfl
set_option maxRecDepth 100000 in
theorem ml_X7_58 : Cond.methodLink RX7 58 yX7_common ∈ lw_g := z_mem (k := 538) rfl rfl
set_option maxRecDepth 100000 in
theorem ml_X7_62 : Cond.methodLink RX7 62 yX7_degreeOf ∈ lw_g := z_mem (k := 541) rfl rfl
set_option maxRecDepth 100000 in
theorem ml_X7_80 : Cond.methodLink RX7 80 yX7_locus ∈ lw_g := z_mem (k := 544) rfl rfl
set_option maxRecDepth 100000 in
theorem ml_X7_90 : Cond.methodLink RX7 90 yX7_emptied ∈ lw_g := z_mem (k := 548) rfl rfl
set_option maxRecDepth 100000 in
theorem ml_X7_93 : Cond.methodLink RX7 93 yX7_entry ∈ lw_g := z_mem (k := 552) rfl rfl
set_option maxRecDepth 100000 in
theorem ml_X7_97 : Cond.methodLink RX7 97 yX7_minorsOf ∈ lw_g := z_mem (k := 556) rfl rfl
set_option maxRecDepth 100000 in
theorem ml_X7_86 : Cond.methodLink RX7 86 yX7_countOf ∈ lw_g := z_mem (k := 560) rfl rfl
set_option maxRecDepth 100000 in
theorem ml_X7_101 : Cond.methodLink RX7 101 yX7_tell ∈ lw_g := z_mem (k := 563) rfl rfl
set_option maxRecDepth 100000 in
theorem ml_X7_105 : Cond.methodLink RX7 105 yX7_degree2 ∈ lw_g := z_mem (k := 567) rfl rfl
set_option maxRecDepth 100000 in
theorem ml_X7_108 : Cond.methodLink RX7 108 yX7_firstOf ∈ lw_g := z_mem (k := 570) rfl rfl
set_option maxRecDepth 100000 in
theorem ml_X7_111 : Cond.methodLink RX7 111 yX7_isPower ∈ lw_g := z_mem (k := 573) rfl rfl
set_option maxRecDepth 100000 in
theorem ml_X7_123 : Cond.methodLink RX7 123 yX7_rootOf ∈ lw_g := z_mem (k := 577) rfl rfl
set_option maxRecDepth 100000 in
theorem co_X7_115 : Cond.constantLong RX7 115 (2000000000) ∈ lw_g := z_mem (k := 580) rfl rfl
set_option maxRecDepth 100000 in
theorem co_X7_117 : Cond.constantLong RX7 117 (2) ∈ lw_g := z_mem (k := 581) rfl rfl
set_option maxRecDepth 100000 in
theorem ml_X7_119 : Cond.methodLink RX7 119 yX7_isAbove ∈ lw_g := z_mem (k := 582) rfl rfl
set_option maxRecDepth 100000 in
theorem ml_X7_127 : Cond.methodLink RX7 127 yX7_raise ∈ lw_g := z_mem (k := 585) rfl rfl
set_option maxRecDepth 100000 in
theorem ml_X7_83 : Cond.methodLink RX7 83 yX7_envelope ∈ lw_g := z_mem (k := 589) rfl rfl
set_option maxRecDepth 100000 in
theorem co_X7_133 : Cond.constant RX7 133 (-1000000) ∈ lw_g := z_mem (k := 597) rfl rfl
set_option maxRecDepth 100000 in
theorem ml_X7_137 : Cond.methodLink RX7 137 yX7_isParameter ∈ lw_g := z_mem (k := 602) rfl rfl
set_option maxRecDepth 100000 in
theorem ml_X7_140 : Cond.methodLink RX7 140 yX7_valueOf ∈ lw_g := z_mem (k := 605) rfl rfl
set_option maxRecDepth 100000 in
theorem ml_X7_134 : Cond.methodLink RX7 134 yX7_raised ∈ lw_g := z_mem (k := 609) rfl rfl
set_option maxRecDepth 100000 in
theorem ml_X7_144 : Cond.methodLink RX7 144 yX7_isSort ∈ lw_g := z_mem (k := 616) rfl rfl
set_option maxRecDepth 100000 in
theorem ml_X7_148 : Cond.methodLink RX7 148 yX7_isPlace ∈ lw_g := z_mem (k := 631) rfl rfl
set_option maxRecDepth 100000 in
theorem co_X7_152 : Cond.constantLong RX7 152 (1073741823) ∈ lw_g := z_mem (k := 634) rfl rfl
set_option maxRecDepth 100000 in
theorem ml_X7_165 : Cond.methodLink RX7 165 yX7_isOn ∈ lw_g := z_mem (k := 643) rfl rfl
set_option maxRecDepth 100000 in
theorem co_X7_157 : Cond.constantLong RX7 157 (2147483647) ∈ lw_g := z_mem (k := 647) rfl rfl
set_option maxRecDepth 100000 in
theorem ml_X7_159 : Cond.methodLink RX7 159 yX7_traced ∈ lw_g := z_mem (k := 648) rfl rfl
set_option maxRecDepth 100000 in
theorem ml_X7_154 : Cond.methodLink RX7 154 yX7_rest ∈ lw_g := z_mem (k := 652) rfl rfl
set_option maxRecDepth 100000 in
theorem co_X7_163 : Cond.constantLong RX7 163 (2147483629) ∈ lw_g := z_mem (k := 655) rfl rfl
set_option maxRecDepth 100000 in
theorem ml_X7_169 : Cond.methodLink RX7 169 yX7_slope ∈ lw_g := z_mem (k := 660) rfl rfl
set_option maxRecDepth 100000 in
theorem mc_X7_init : Cond.code yX7_init cX7_init 1 none ∈ lw_g := z_mem (k := 459) rfl rfl
theorem nd_X7_init : yX7_init.cls ≠ "java/lang/invoke/MethodHandle" ∧ yX7_init.cls ≠ "java/lang/invoke/VarHandle" ∧ (parseMethodDescriptor yX7_init.desc).map (fun d => d.parameters.length) = some 0 := by decide +kernel
set_option maxRecDepth 100000 in
theorem im_X7_init : Cond.instanceMethod yX7_init ∈ lw_g := z_mem (k := 458) rfl rfl
set_option maxRecDepth 100000 in
theorem mc_X7_term : Cond.code yX7_term cX7_term 5 (some .int) ∈ lw_g := z_mem (k := 518) rfl rfl
theorem nd_X7_term : yX7_term.cls ≠ "java/lang/invoke/MethodHandle" ∧ yX7_term.cls ≠ "java/lang/invoke/VarHandle" ∧ (parseMethodDescriptor yX7_term.desc).map (fun d => d.parameters.length) = some 3 := by decide +kernel
set_option maxRecDepth 100000 in
theorem im_X7_term : Cond.instanceMethod yX7_term ∈ lw_g := z_mem (k := 516) rfl rfl
set_option maxRecDepth 100000 in
theorem se_X7_term : Cond.selects RX7 yX7_term yX7_term ∈ lw_g := z_mem (k := 517) rfl rfl
set_option maxRecDepth 100000 in
theorem mc_X7_clear : Cond.code yX7_clear cX7_clear 3 (some .int) ∈ lw_g := z_mem (k := 522) rfl rfl
theorem nd_X7_clear : yX7_clear.cls ≠ "java/lang/invoke/MethodHandle" ∧ yX7_clear.cls ≠ "java/lang/invoke/VarHandle" ∧ (parseMethodDescriptor yX7_clear.desc).map (fun d => d.parameters.length) = some 0 := by decide +kernel
set_option maxRecDepth 100000 in
theorem im_X7_clear : Cond.instanceMethod yX7_clear ∈ lw_g := z_mem (k := 520) rfl rfl
set_option maxRecDepth 100000 in
theorem se_X7_clear : Cond.selects RX7 yX7_clear yX7_clear ∈ lw_g := z_mem (k := 521) rfl rfl
set_option maxRecDepth 100000 in
theorem mc_X7_common : Cond.code yX7_common cX7_common 10 (some .long) ∈ lw_g := z_mem (k := 540) rfl rfl
theorem nd_X7_common : yX7_common.cls ≠ "java/lang/invoke/MethodHandle" ∧ yX7_common.cls ≠ "java/lang/invoke/VarHandle" ∧ (parseMethodDescriptor yX7_common.desc).map (fun d => d.parameters.length) = some 2 := by decide +kernel
set_option maxRecDepth 100000 in
theorem st_X7_common : Cond.static yX7_common ∈ lw_g := z_mem (k := 539) rfl rfl
set_option maxRecDepth 100000 in
theorem mc_X7_degreeOf : Cond.code yX7_degreeOf cX7_degreeOf 2 (some .int) ∈ lw_g := z_mem (k := 543) rfl rfl
theorem nd_X7_degreeOf : yX7_degreeOf.cls ≠ "java/lang/invoke/MethodHandle" ∧ yX7_degreeOf.cls ≠ "java/lang/invoke/VarHandle" ∧ (parseMethodDescriptor yX7_degreeOf.desc).map (fun d => d.parameters.length) = some 1 := by decide +kernel
set_option maxRecDepth 100000 in
theorem st_X7_degreeOf : Cond.static yX7_degreeOf ∈ lw_g := z_mem (k := 542) rfl rfl
set_option maxRecDepth 100000 in
theorem mc_X7_reduce : Cond.code yX7_reduce cX7_reduce 5 none ∈ lw_g := z_mem (k := 537) rfl rfl
theorem nd_X7_reduce : yX7_reduce.cls ≠ "java/lang/invoke/MethodHandle" ∧ yX7_reduce.cls ≠ "java/lang/invoke/VarHandle" ∧ (parseMethodDescriptor yX7_reduce.desc).map (fun d => d.parameters.length) = some 1 := by decide +kernel
set_option maxRecDepth 100000 in
theorem st_X7_reduce : Cond.static yX7_reduce ∈ lw_g := z_mem (k := 536) rfl rfl
set_option maxRecDepth 100000 in
theorem mc_X7_divisor : Cond.code yX7_divisor cX7_divisor 8 none ∈ lw_g := z_mem (k := 534) rfl rfl
theorem nd_X7_divisor : yX7_divisor.cls ≠ "java/lang/invoke/MethodHandle" ∧ yX7_divisor.cls ≠ "java/lang/invoke/VarHandle" ∧ (parseMethodDescriptor yX7_divisor.desc).map (fun d => d.parameters.length) = some 0 := by decide +kernel
set_option maxRecDepth 100000 in
theorem im_X7_divisor : Cond.instanceMethod yX7_divisor ∈ lw_g := z_mem (k := 533) rfl rfl
set_option maxRecDepth 100000 in
theorem se_X7_divisor : Cond.selects RX7 yX7_divisor yX7_divisor ∈ lw_g := z_mem (k := 17) rfl rfl
set_option maxRecDepth 100000 in
theorem mc_X7_work : Cond.code yX7_work cX7_work 7 none ∈ lw_g := z_mem (k := 530) rfl rfl
theorem nd_X7_work : yX7_work.cls ≠ "java/lang/invoke/MethodHandle" ∧ yX7_work.cls ≠ "java/lang/invoke/VarHandle" ∧ (parseMethodDescriptor yX7_work.desc).map (fun d => d.parameters.length) = some 0 := by decide +kernel
set_option maxRecDepth 100000 in
theorem im_X7_work : Cond.instanceMethod yX7_work ∈ lw_g := z_mem (k := 529) rfl rfl
set_option maxRecDepth 100000 in
theorem se_X7_work : Cond.selects RX7 yX7_work yX7_work ∈ lw_g := z_mem (k := 16) rfl rfl
set_option maxRecDepth 100000 in
theorem mc_X7_entry : Cond.code yX7_entry cX7_entry 9 none ∈ lw_g := z_mem (k := 555) rfl rfl
theorem nd_X7_entry : yX7_entry.cls ≠ "java/lang/invoke/MethodHandle" ∧ yX7_entry.cls ≠ "java/lang/invoke/VarHandle" ∧ (parseMethodDescriptor yX7_entry.desc).map (fun d => d.parameters.length) = some 5 := by decide +kernel
set_option maxRecDepth 100000 in
theorem im_X7_entry : Cond.instanceMethod yX7_entry ∈ lw_g := z_mem (k := 554) rfl rfl
set_option maxRecDepth 100000 in
theorem se_X7_entry : Cond.selects RX7 yX7_entry yX7_entry ∈ lw_g := z_mem (k := 20) rfl rfl
set_option maxRecDepth 100000 in
theorem mc_X7_emptied : Cond.code yX7_emptied cX7_emptied 2 none ∈ lw_g := z_mem (k := 551) rfl rfl
theorem nd_X7_emptied : yX7_emptied.cls ≠ "java/lang/invoke/MethodHandle" ∧ yX7_emptied.cls ≠ "java/lang/invoke/VarHandle" ∧ (parseMethodDescriptor yX7_emptied.desc).map (fun d => d.parameters.length) = some 0 := by decide +kernel
set_option maxRecDepth 100000 in
theorem im_X7_emptied : Cond.instanceMethod yX7_emptied ∈ lw_g := z_mem (k := 550) rfl rfl
set_option maxRecDepth 100000 in
theorem se_X7_emptied : Cond.selects RX7 yX7_emptied yX7_emptied ∈ lw_g := z_mem (k := 19) rfl rfl
set_option maxRecDepth 100000 in
theorem mc_X7_countOf : Cond.code yX7_countOf cX7_countOf 3 (some .int) ∈ lw_g := z_mem (k := 562) rfl rfl
theorem nd_X7_countOf : yX7_countOf.cls ≠ "java/lang/invoke/MethodHandle" ∧ yX7_countOf.cls ≠ "java/lang/invoke/VarHandle" ∧ (parseMethodDescriptor yX7_countOf.desc).map (fun d => d.parameters.length) = some 1 := by decide +kernel
set_option maxRecDepth 100000 in
theorem st_X7_countOf : Cond.static yX7_countOf ∈ lw_g := z_mem (k := 561) rfl rfl
set_option maxRecDepth 100000 in
theorem mc_X7_minorsOf : Cond.code yX7_minorsOf cX7_minorsOf 12 none ∈ lw_g := z_mem (k := 559) rfl rfl
theorem nd_X7_minorsOf : yX7_minorsOf.cls ≠ "java/lang/invoke/MethodHandle" ∧ yX7_minorsOf.cls ≠ "java/lang/invoke/VarHandle" ∧ (parseMethodDescriptor yX7_minorsOf.desc).map (fun d => d.parameters.length) = some 1 := by decide +kernel
set_option maxRecDepth 100000 in
theorem im_X7_minorsOf : Cond.instanceMethod yX7_minorsOf ∈ lw_g := z_mem (k := 558) rfl rfl
set_option maxRecDepth 100000 in
theorem se_X7_minorsOf : Cond.selects RX7 yX7_minorsOf yX7_minorsOf ∈ lw_g := z_mem (k := 21) rfl rfl
set_option maxRecDepth 100000 in
theorem mc_X7_locus : Cond.code yX7_locus cX7_locus 4 none ∈ lw_g := z_mem (k := 547) rfl rfl
theorem nd_X7_locus : yX7_locus.cls ≠ "java/lang/invoke/MethodHandle" ∧ yX7_locus.cls ≠ "java/lang/invoke/VarHandle" ∧ (parseMethodDescriptor yX7_locus.desc).map (fun d => d.parameters.length) = some 0 := by decide +kernel
set_option maxRecDepth 100000 in
theorem im_X7_locus : Cond.instanceMethod yX7_locus ∈ lw_g := z_mem (k := 546) rfl rfl
set_option maxRecDepth 100000 in
theorem se_X7_locus : Cond.selects RX7 yX7_locus yX7_locus ∈ lw_g := z_mem (k := 18) rfl rfl
set_option maxRecDepth 100000 in
theorem mc_X7_envelope : Cond.code yX7_envelope cX7_envelope 8 none ∈ lw_g := z_mem (k := 592) rfl rfl
theorem nd_X7_envelope : yX7_envelope.cls ≠ "java/lang/invoke/MethodHandle" ∧ yX7_envelope.cls ≠ "java/lang/invoke/VarHandle" ∧ (parseMethodDescriptor yX7_envelope.desc).map (fun d => d.parameters.length) = some 0 := by decide +kernel
set_option maxRecDepth 100000 in
theorem im_X7_envelope : Cond.instanceMethod yX7_envelope ∈ lw_g := z_mem (k := 591) rfl rfl
set_option maxRecDepth 100000 in
theorem se_X7_envelope : Cond.selects RX7 yX7_envelope yX7_envelope ∈ lw_g := z_mem (k := 25) rfl rfl
set_option maxRecDepth 100000 in
theorem mc_X7_degree2 : Cond.code yX7_degree2 cX7_degree2 4 (some .int) ∈ lw_g := z_mem (k := 569) rfl rfl
theorem nd_X7_degree2 : yX7_degree2.cls ≠ "java/lang/invoke/MethodHandle" ∧ yX7_degree2.cls ≠ "java/lang/invoke/VarHandle" ∧ (parseMethodDescriptor yX7_degree2.desc).map (fun d => d.parameters.length) = some 1 := by decide +kernel
set_option maxRecDepth 100000 in
theorem st_X7_degree2 : Cond.static yX7_degree2 ∈ lw_g := z_mem (k := 568) rfl rfl
set_option maxRecDepth 100000 in
theorem mc_X7_firstOf : Cond.code yX7_firstOf cX7_firstOf 3 (some .int) ∈ lw_g := z_mem (k := 572) rfl rfl
theorem nd_X7_firstOf : yX7_firstOf.cls ≠ "java/lang/invoke/MethodHandle" ∧ yX7_firstOf.cls ≠ "java/lang/invoke/VarHandle" ∧ (parseMethodDescriptor yX7_firstOf.desc).map (fun d => d.parameters.length) = some 1 := by decide +kernel
set_option maxRecDepth 100000 in
theorem st_X7_firstOf : Cond.static yX7_firstOf ∈ lw_g := z_mem (k := 571) rfl rfl
set_option maxRecDepth 100000 in
theorem mc_X7_tell : Cond.code yX7_tell cX7_tell 9 none ∈ lw_g := z_mem (k := 566) rfl rfl
theorem nd_X7_tell : yX7_tell.cls ≠ "java/lang/invoke/MethodHandle" ∧ yX7_tell.cls ≠ "java/lang/invoke/VarHandle" ∧ (parseMethodDescriptor yX7_tell.desc).map (fun d => d.parameters.length) = some 2 := by decide +kernel
set_option maxRecDepth 100000 in
theorem im_X7_tell : Cond.instanceMethod yX7_tell ∈ lw_g := z_mem (k := 565) rfl rfl
set_option maxRecDepth 100000 in
theorem se_X7_tell : Cond.selects RX7 yX7_tell yX7_tell ∈ lw_g := z_mem (k := 22) rfl rfl
set_option maxRecDepth 100000 in
theorem mc_X7_rootOf : Cond.code yX7_rootOf cX7_rootOf 10 (some .long) ∈ lw_g := z_mem (k := 579) rfl rfl
theorem nd_X7_rootOf : yX7_rootOf.cls ≠ "java/lang/invoke/MethodHandle" ∧ yX7_rootOf.cls ≠ "java/lang/invoke/VarHandle" ∧ (parseMethodDescriptor yX7_rootOf.desc).map (fun d => d.parameters.length) = some 2 := by decide +kernel
set_option maxRecDepth 100000 in
theorem st_X7_rootOf : Cond.static yX7_rootOf ∈ lw_g := z_mem (k := 578) rfl rfl
set_option maxRecDepth 100000 in
theorem mc_X7_isAbove : Cond.code yX7_isAbove cX7_isAbove 8 (some .boolean) ∈ lw_g := z_mem (k := 584) rfl rfl
theorem nd_X7_isAbove : yX7_isAbove.cls ≠ "java/lang/invoke/MethodHandle" ∧ yX7_isAbove.cls ≠ "java/lang/invoke/VarHandle" ∧ (parseMethodDescriptor yX7_isAbove.desc).map (fun d => d.parameters.length) = some 3 := by decide +kernel
set_option maxRecDepth 100000 in
theorem st_X7_isAbove : Cond.static yX7_isAbove ∈ lw_g := z_mem (k := 583) rfl rfl
set_option maxRecDepth 100000 in
theorem mc_X7_raise : Cond.code yX7_raise cX7_raise 5 none ∈ lw_g := z_mem (k := 588) rfl rfl
theorem nd_X7_raise : yX7_raise.cls ≠ "java/lang/invoke/MethodHandle" ∧ yX7_raise.cls ≠ "java/lang/invoke/VarHandle" ∧ (parseMethodDescriptor yX7_raise.desc).map (fun d => d.parameters.length) = some 1 := by decide +kernel
set_option maxRecDepth 100000 in
theorem im_X7_raise : Cond.instanceMethod yX7_raise ∈ lw_g := z_mem (k := 587) rfl rfl
set_option maxRecDepth 100000 in
theorem se_X7_raise : Cond.selects RX7 yX7_raise yX7_raise ∈ lw_g := z_mem (k := 24) rfl rfl
set_option maxRecDepth 100000 in
theorem mc_X7_isPower : Cond.code yX7_isPower cX7_isPower 18 (some .boolean) ∈ lw_g := z_mem (k := 576) rfl rfl
theorem nd_X7_isPower : yX7_isPower.cls ≠ "java/lang/invoke/MethodHandle" ∧ yX7_isPower.cls ≠ "java/lang/invoke/VarHandle" ∧ (parseMethodDescriptor yX7_isPower.desc).map (fun d => d.parameters.length) = some 2 := by decide +kernel
set_option maxRecDepth 100000 in
theorem im_X7_isPower : Cond.instanceMethod yX7_isPower ∈ lw_g := z_mem (k := 575) rfl rfl
set_option maxRecDepth 100000 in
theorem se_X7_isPower : Cond.selects RX7 yX7_isPower yX7_isPower ∈ lw_g := z_mem (k := 23) rfl rfl
set_option maxRecDepth 100000 in
theorem mc_X7_degree : Cond.code yX7_degree cX7_degree 2 (some .int) ∈ lw_g := z_mem (k := 526) rfl rfl
theorem nd_X7_degree : yX7_degree.cls ≠ "java/lang/invoke/MethodHandle" ∧ yX7_degree.cls ≠ "java/lang/invoke/VarHandle" ∧ (parseMethodDescriptor yX7_degree.desc).map (fun d => d.parameters.length) = some 1 := by decide +kernel
set_option maxRecDepth 100000 in
theorem im_X7_degree : Cond.instanceMethod yX7_degree ∈ lw_g := z_mem (k := 524) rfl rfl
set_option maxRecDepth 100000 in
theorem se_X7_degree : Cond.selects RX7 yX7_degree yX7_degree ∈ lw_g := z_mem (k := 525) rfl rfl
set_option maxRecDepth 100000 in
theorem mc_X7_freed : Cond.code yX7_freed cX7_freed 3 (some .int) ∈ lw_g := z_mem (k := 596) rfl rfl
theorem nd_X7_freed : yX7_freed.cls ≠ "java/lang/invoke/MethodHandle" ∧ yX7_freed.cls ≠ "java/lang/invoke/VarHandle" ∧ (parseMethodDescriptor yX7_freed.desc).map (fun d => d.parameters.length) = some 2 := by decide +kernel
set_option maxRecDepth 100000 in
theorem im_X7_freed : Cond.instanceMethod yX7_freed ∈ lw_g := z_mem (k := 594) rfl rfl
set_option maxRecDepth 100000 in
theorem se_X7_freed : Cond.selects RX7 yX7_freed yX7_freed ∈ lw_g := z_mem (k := 595) rfl rfl
set_option maxRecDepth 100000 in
theorem mc_X7_isParameter : Cond.code yX7_isParameter cX7_isParameter 2 (some .boolean) ∈ lw_g := z_mem (k := 604) rfl rfl
theorem nd_X7_isParameter : yX7_isParameter.cls ≠ "java/lang/invoke/MethodHandle" ∧ yX7_isParameter.cls ≠ "java/lang/invoke/VarHandle" ∧ (parseMethodDescriptor yX7_isParameter.desc).map (fun d => d.parameters.length) = some 2 := by decide +kernel
set_option maxRecDepth 100000 in
theorem st_X7_isParameter : Cond.static yX7_isParameter ∈ lw_g := z_mem (k := 603) rfl rfl
set_option maxRecDepth 100000 in
theorem mc_X7_raised : Cond.code yX7_raised cX7_raised 6 (some .long) ∈ lw_g := z_mem (k := 611) rfl rfl
theorem nd_X7_raised : yX7_raised.cls ≠ "java/lang/invoke/MethodHandle" ∧ yX7_raised.cls ≠ "java/lang/invoke/VarHandle" ∧ (parseMethodDescriptor yX7_raised.desc).map (fun d => d.parameters.length) = some 2 := by decide +kernel
set_option maxRecDepth 100000 in
theorem st_X7_raised : Cond.static yX7_raised ∈ lw_g := z_mem (k := 610) rfl rfl
set_option maxRecDepth 100000 in
theorem mc_X7_valueOf : Cond.code yX7_valueOf cX7_valueOf 7 (some .long) ∈ lw_g := z_mem (k := 608) rfl rfl
theorem nd_X7_valueOf : yX7_valueOf.cls ≠ "java/lang/invoke/MethodHandle" ∧ yX7_valueOf.cls ≠ "java/lang/invoke/VarHandle" ∧ (parseMethodDescriptor yX7_valueOf.desc).map (fun d => d.parameters.length) = some 3 := by decide +kernel
set_option maxRecDepth 100000 in
theorem im_X7_valueOf : Cond.instanceMethod yX7_valueOf ∈ lw_g := z_mem (k := 607) rfl rfl
set_option maxRecDepth 100000 in
theorem se_X7_valueOf : Cond.selects RX7 yX7_valueOf yX7_valueOf ∈ lw_g := z_mem (k := 26) rfl rfl
set_option maxRecDepth 100000 in
theorem mc_X7_value : Cond.code yX7_value cX7_value 6 (some .int) ∈ lw_g := z_mem (k := 601) rfl rfl
theorem nd_X7_value : yX7_value.cls ≠ "java/lang/invoke/MethodHandle" ∧ yX7_value.cls ≠ "java/lang/invoke/VarHandle" ∧ (parseMethodDescriptor yX7_value.desc).map (fun d => d.parameters.length) = some 3 := by decide +kernel
set_option maxRecDepth 100000 in
theorem im_X7_value : Cond.instanceMethod yX7_value ∈ lw_g := z_mem (k := 599) rfl rfl
set_option maxRecDepth 100000 in
theorem se_X7_value : Cond.selects RX7 yX7_value yX7_value ∈ lw_g := z_mem (k := 600) rfl rfl
set_option maxRecDepth 100000 in
theorem mc_X7_isSort : Cond.code yX7_isSort cX7_isSort 1 (some .boolean) ∈ lw_g := z_mem (k := 618) rfl rfl
theorem nd_X7_isSort : yX7_isSort.cls ≠ "java/lang/invoke/MethodHandle" ∧ yX7_isSort.cls ≠ "java/lang/invoke/VarHandle" ∧ (parseMethodDescriptor yX7_isSort.desc).map (fun d => d.parameters.length) = some 1 := by decide +kernel
set_option maxRecDepth 100000 in
theorem st_X7_isSort : Cond.static yX7_isSort ∈ lw_g := z_mem (k := 617) rfl rfl
set_option maxRecDepth 100000 in
theorem mc_X7_trace : Cond.code yX7_trace cX7_trace 2 (some .int) ∈ lw_g := z_mem (k := 615) rfl rfl
theorem nd_X7_trace : yX7_trace.cls ≠ "java/lang/invoke/MethodHandle" ∧ yX7_trace.cls ≠ "java/lang/invoke/VarHandle" ∧ (parseMethodDescriptor yX7_trace.desc).map (fun d => d.parameters.length) = some 1 := by decide +kernel
set_option maxRecDepth 100000 in
theorem im_X7_trace : Cond.instanceMethod yX7_trace ∈ lw_g := z_mem (k := 613) rfl rfl
set_option maxRecDepth 100000 in
theorem se_X7_trace : Cond.selects RX7 yX7_trace yX7_trace ∈ lw_g := z_mem (k := 614) rfl rfl
set_option maxRecDepth 100000 in
theorem mc_X7_times : Cond.code yX7_times cX7_times 2 (some .int) ∈ lw_g := z_mem (k := 622) rfl rfl
theorem nd_X7_times : yX7_times.cls ≠ "java/lang/invoke/MethodHandle" ∧ yX7_times.cls ≠ "java/lang/invoke/VarHandle" ∧ (parseMethodDescriptor yX7_times.desc).map (fun d => d.parameters.length) = some 1 := by decide +kernel
set_option maxRecDepth 100000 in
theorem im_X7_times : Cond.instanceMethod yX7_times ∈ lw_g := z_mem (k := 620) rfl rfl
set_option maxRecDepth 100000 in
theorem se_X7_times : Cond.selects RX7 yX7_times yX7_times ∈ lw_g := z_mem (k := 621) rfl rfl
set_option maxRecDepth 100000 in
theorem mc_X7_coefficient : Cond.code yX7_coefficient cX7_coefficient 4 (some .long) ∈ lw_g := z_mem (k := 626) rfl rfl
theorem nd_X7_coefficient : yX7_coefficient.cls ≠ "java/lang/invoke/MethodHandle" ∧ yX7_coefficient.cls ≠ "java/lang/invoke/VarHandle" ∧ (parseMethodDescriptor yX7_coefficient.desc).map (fun d => d.parameters.length) = some 3 := by decide +kernel
set_option maxRecDepth 100000 in
theorem im_X7_coefficient : Cond.instanceMethod yX7_coefficient ∈ lw_g := z_mem (k := 624) rfl rfl
set_option maxRecDepth 100000 in
theorem se_X7_coefficient : Cond.selects RX7 yX7_coefficient yX7_coefficient ∈ lw_g := z_mem (k := 625) rfl rfl
set_option maxRecDepth 100000 in
theorem mc_X7_isPlace : Cond.code yX7_isPlace cX7_isPlace 3 (some .boolean) ∈ lw_g := z_mem (k := 633) rfl rfl
theorem nd_X7_isPlace : yX7_isPlace.cls ≠ "java/lang/invoke/MethodHandle" ∧ yX7_isPlace.cls ≠ "java/lang/invoke/VarHandle" ∧ (parseMethodDescriptor yX7_isPlace.desc).map (fun d => d.parameters.length) = some 3 := by decide +kernel
set_option maxRecDepth 100000 in
theorem st_X7_isPlace : Cond.static yX7_isPlace ∈ lw_g := z_mem (k := 632) rfl rfl
set_option maxRecDepth 100000 in
theorem mc_X7_side : Cond.code yX7_side cX7_side 15 (some .int) ∈ lw_g := z_mem (k := 630) rfl rfl
theorem nd_X7_side : yX7_side.cls ≠ "java/lang/invoke/MethodHandle" ∧ yX7_side.cls ≠ "java/lang/invoke/VarHandle" ∧ (parseMethodDescriptor yX7_side.desc).map (fun d => d.parameters.length) = some 4 := by decide +kernel
set_option maxRecDepth 100000 in
theorem im_X7_side : Cond.instanceMethod yX7_side ∈ lw_g := z_mem (k := 628) rfl rfl
set_option maxRecDepth 100000 in
theorem se_X7_side : Cond.selects RX7 yX7_side yX7_side ∈ lw_g := z_mem (k := 629) rfl rfl
set_option maxRecDepth 100000 in
theorem mc_X7_at : Cond.code yX7_at cX7_at 8 (some .int) ∈ lw_g := z_mem (k := 638) rfl rfl
theorem nd_X7_at : yX7_at.cls ≠ "java/lang/invoke/MethodHandle" ∧ yX7_at.cls ≠ "java/lang/invoke/VarHandle" ∧ (parseMethodDescriptor yX7_at.desc).map (fun d => d.parameters.length) = some 5 := by decide +kernel
set_option maxRecDepth 100000 in
theorem im_X7_at : Cond.instanceMethod yX7_at ∈ lw_g := z_mem (k := 636) rfl rfl
set_option maxRecDepth 100000 in
theorem se_X7_at : Cond.selects RX7 yX7_at yX7_at ∈ lw_g := z_mem (k := 637) rfl rfl
set_option maxRecDepth 100000 in
theorem mc_X7_rest : Cond.code yX7_rest cX7_rest 4 (some .long) ∈ lw_g := z_mem (k := 654) rfl rfl
theorem nd_X7_rest : yX7_rest.cls ≠ "java/lang/invoke/MethodHandle" ∧ yX7_rest.cls ≠ "java/lang/invoke/VarHandle" ∧ (parseMethodDescriptor yX7_rest.desc).map (fun d => d.parameters.length) = some 2 := by decide +kernel
set_option maxRecDepth 100000 in
theorem st_X7_rest : Cond.static yX7_rest ∈ lw_g := z_mem (k := 653) rfl rfl
set_option maxRecDepth 100000 in
theorem mc_X7_traced : Cond.code yX7_traced cX7_traced 19 (some .long) ∈ lw_g := z_mem (k := 651) rfl rfl
theorem nd_X7_traced : yX7_traced.cls ≠ "java/lang/invoke/MethodHandle" ∧ yX7_traced.cls ≠ "java/lang/invoke/VarHandle" ∧ (parseMethodDescriptor yX7_traced.desc).map (fun d => d.parameters.length) = some 5 := by decide +kernel
set_option maxRecDepth 100000 in
theorem im_X7_traced : Cond.instanceMethod yX7_traced ∈ lw_g := z_mem (k := 650) rfl rfl
set_option maxRecDepth 100000 in
theorem se_X7_traced : Cond.selects RX7 yX7_traced yX7_traced ∈ lw_g := z_mem (k := 28) rfl rfl
set_option maxRecDepth 100000 in
theorem mc_X7_isOn : Cond.code yX7_isOn cX7_isOn 8 (some .int) ∈ lw_g := z_mem (k := 646) rfl rfl
theorem nd_X7_isOn : yX7_isOn.cls ≠ "java/lang/invoke/MethodHandle" ∧ yX7_isOn.cls ≠ "java/lang/invoke/VarHandle" ∧ (parseMethodDescriptor yX7_isOn.desc).map (fun d => d.parameters.length) = some 4 := by decide +kernel
set_option maxRecDepth 100000 in
theorem im_X7_isOn : Cond.instanceMethod yX7_isOn ∈ lw_g := z_mem (k := 645) rfl rfl
set_option maxRecDepth 100000 in
theorem se_X7_isOn : Cond.selects RX7 yX7_isOn yX7_isOn ∈ lw_g := z_mem (k := 27) rfl rfl
set_option maxRecDepth 100000 in
theorem mc_X7_follows : Cond.code yX7_follows cX7_follows 5 (some .int) ∈ lw_g := z_mem (k := 642) rfl rfl
theorem nd_X7_follows : yX7_follows.cls ≠ "java/lang/invoke/MethodHandle" ∧ yX7_follows.cls ≠ "java/lang/invoke/VarHandle" ∧ (parseMethodDescriptor yX7_follows.desc).map (fun d => d.parameters.length) = some 2 := by decide +kernel
set_option maxRecDepth 100000 in
theorem im_X7_follows : Cond.instanceMethod yX7_follows ∈ lw_g := z_mem (k := 640) rfl rfl
set_option maxRecDepth 100000 in
theorem se_X7_follows : Cond.selects RX7 yX7_follows yX7_follows ∈ lw_g := z_mem (k := 641) rfl rfl
set_option maxRecDepth 100000 in
theorem mc_X7_slope : Cond.code yX7_slope cX7_slope 10 (some .long) ∈ lw_g := z_mem (k := 663) rfl rfl
theorem nd_X7_slope : yX7_slope.cls ≠ "java/lang/invoke/MethodHandle" ∧ yX7_slope.cls ≠ "java/lang/invoke/VarHandle" ∧ (parseMethodDescriptor yX7_slope.desc).map (fun d => d.parameters.length) = some 4 := by decide +kernel
set_option maxRecDepth 100000 in
theorem im_X7_slope : Cond.instanceMethod yX7_slope ∈ lw_g := z_mem (k := 662) rfl rfl
set_option maxRecDepth 100000 in
theorem se_X7_slope : Cond.selects RX7 yX7_slope yX7_slope ∈ lw_g := z_mem (k := 29) rfl rfl
set_option maxRecDepth 100000 in
theorem mc_X7_touches : Cond.code yX7_touches cX7_touches 17 (some .int) ∈ lw_g := z_mem (k := 659) rfl rfl
theorem nd_X7_touches : yX7_touches.cls ≠ "java/lang/invoke/MethodHandle" ∧ yX7_touches.cls ≠ "java/lang/invoke/VarHandle" ∧ (parseMethodDescriptor yX7_touches.desc).map (fun d => d.parameters.length) = some 2 := by decide +kernel
set_option maxRecDepth 100000 in
theorem im_X7_touches : Cond.instanceMethod yX7_touches ∈ lw_g := z_mem (k := 657) rfl rfl
set_option maxRecDepth 100000 in
theorem se_X7_touches : Cond.selects RX7 yX7_touches yX7_touches ∈ lw_g := z_mem (k := 658) rfl rfl
