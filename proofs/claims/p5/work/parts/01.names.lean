-- ===== PART A: goes FIRST, ahead of the names: the tables' words, and 'selects' of the private methods out of them =====
/-- a private method of a class that the tables say can be made, by its rows of tables_1 -/
def lw_okq (q : MethodName × Nat) : Prop := (q.1.cls ≠ "java/lang/invoke/MethodHandle" ∧ q.1.cls ≠ "java/lang/invoke/VarHandle") ∧ Cond.instantiable q.1.cls q.2 ∈ tables_1 ∧ Cond.privateMethod q.1 ∈ tables_1 ∧ Cond.instanceMethod q.1 ∈ tables_1
theorem lw_p0 : lw_okq (⟨"EliminateLoci", "forget", "()V"⟩, 9) := ⟨⟨by decide +kernel, by decide +kernel⟩, List.mem_of_getElem? (i := 14) (by decide +kernel), List.mem_of_getElem? (i := 181) (by decide +kernel), List.mem_of_getElem? (i := 182) (by decide +kernel)⟩
theorem lw_p1 : lw_okq (⟨"EliminateLoci", "freeRow", "()LEliminateLoci$Row;"⟩, 9) := ⟨⟨by decide +kernel, by decide +kernel⟩, List.mem_of_getElem? (i := 14) (by decide +kernel), List.mem_of_getElem? (i := 201) (by decide +kernel), List.mem_of_getElem? (i := 202) (by decide +kernel)⟩
theorem lw_p2 : lw_okq (⟨"EliminateLoci$Divisor", "shareWithOther", "()V"⟩, 3) := ⟨⟨by decide +kernel, by decide +kernel⟩, List.mem_of_getElem? (i := 38) (by decide +kernel), List.mem_of_getElem? (i := 215) (by decide +kernel), List.mem_of_getElem? (i := 216) (by decide +kernel)⟩
theorem lw_p3 : lw_okq (⟨"EliminateLoci$Divisor", "swap", "()V"⟩, 3) := ⟨⟨by decide +kernel, by decide +kernel⟩, List.mem_of_getElem? (i := 38) (by decide +kernel), List.mem_of_getElem? (i := 222) (by decide +kernel), List.mem_of_getElem? (i := 223) (by decide +kernel)⟩
theorem lw_p4 : lw_okq (⟨"EliminateLoci$Divisor", "lowerShared", "(II)V"⟩, 3) := ⟨⟨by decide +kernel, by decide +kernel⟩, List.mem_of_getElem? (i := 38) (by decide +kernel), List.mem_of_getElem? (i := 226) (by decide +kernel), List.mem_of_getElem? (i := 227) (by decide +kernel)⟩
theorem lw_p5 : lw_okq (⟨"EliminateLoci$Divisor", "makePrimitive", "([J)V"⟩, 3) := ⟨⟨by decide +kernel, by decide +kernel⟩, List.mem_of_getElem? (i := 38) (by decide +kernel), List.mem_of_getElem? (i := 233) (by decide +kernel), List.mem_of_getElem? (i := 234) (by decide +kernel)⟩
theorem lw_p6 : lw_okq (⟨"EliminateLoci$Divisor", "divideByShared", "([J)V"⟩, 3) := ⟨⟨by decide +kernel, by decide +kernel⟩, List.mem_of_getElem? (i := 38) (by decide +kernel), List.mem_of_getElem? (i := 237) (by decide +kernel), List.mem_of_getElem? (i := 238) (by decide +kernel)⟩
theorem lw_p7 : lw_okq (⟨"EliminateLoci", "moveTo", "(II)V"⟩, 9) := ⟨⟨by decide +kernel, by decide +kernel⟩, List.mem_of_getElem? (i := 14) (by decide +kernel), List.mem_of_getElem? (i := 253) (by decide +kernel), List.mem_of_getElem? (i := 254) (by decide +kernel)⟩
theorem lw_p8 : lw_okq (⟨"EliminateLoci", "curveOf", "(I)LEliminateLoci$Curve;"⟩, 9) := ⟨⟨by decide +kernel, by decide +kernel⟩, List.mem_of_getElem? (i := 14) (by decide +kernel), List.mem_of_getElem? (i := 268) (by decide +kernel), List.mem_of_getElem? (i := 269) (by decide +kernel)⟩
theorem lw_p9 : lw_okq (⟨"EliminateLoci$Eliminant", "fillEntry", "(III)V"⟩, 4) := ⟨⟨by decide +kernel, by decide +kernel⟩, List.mem_of_getElem? (i := 54) (by decide +kernel), List.mem_of_getElem? (i := 305) (by decide +kernel), List.mem_of_getElem? (i := 306) (by decide +kernel)⟩
theorem lw_p10 : lw_okq (⟨"EliminateLoci$Eliminant", "fillMinor", "(II)V"⟩, 4) := ⟨⟨by decide +kernel, by decide +kernel⟩, List.mem_of_getElem? (i := 54) (by decide +kernel), List.mem_of_getElem? (i := 326) (by decide +kernel), List.mem_of_getElem? (i := 327) (by decide +kernel)⟩
theorem lw_p11 : lw_okq (⟨"EliminateLoci$RootFinder", "startRoot", "(I)Z"⟩, 4) := ⟨⟨by decide +kernel, by decide +kernel⟩, List.mem_of_getElem? (i := 92) (by decide +kernel), List.mem_of_getElem? (i := 351) (by decide +kernel), List.mem_of_getElem? (i := 352) (by decide +kernel)⟩
theorem lw_p12 : lw_okq (⟨"EliminateLoci$RootFinder", "completeRoot", "(I)Z"⟩, 4) := ⟨⟨by decide +kernel, by decide +kernel⟩, List.mem_of_getElem? (i := 92) (by decide +kernel), List.mem_of_getElem? (i := 365) (by decide +kernel), List.mem_of_getElem? (i := 366) (by decide +kernel)⟩
theorem lw_p13 : lw_okq (⟨"EliminateLoci$RootFinder", "raiseRoot", "(I)V"⟩, 4) := ⟨⟨by decide +kernel, by decide +kernel⟩, List.mem_of_getElem? (i := 92) (by decide +kernel), List.mem_of_getElem? (i := 376) (by decide +kernel), List.mem_of_getElem? (i := 377) (by decide +kernel)⟩
theorem lw_p14 : lw_okq (⟨"EliminateLoci", "slopeByU", "(IIII)J"⟩, 9) := ⟨⟨by decide +kernel, by decide +kernel⟩, List.mem_of_getElem? (i := 14) (by decide +kernel), List.mem_of_getElem? (i := 418) (by decide +kernel), List.mem_of_getElem? (i := 419) (by decide +kernel)⟩
theorem lw_p15 : lw_okq (⟨"EliminateLoci", "slopeByV", "(IIII)J"⟩, 9) := ⟨⟨by decide +kernel, by decide +kernel⟩, List.mem_of_getElem? (i := 14) (by decide +kernel), List.mem_of_getElem? (i := 422) (by decide +kernel), List.mem_of_getElem? (i := 423) (by decide +kernel)⟩
def lw_privs_1 : List (MethodName × Nat) := [(⟨"EliminateLoci", "forget", "()V"⟩, 9), (⟨"EliminateLoci", "freeRow", "()LEliminateLoci$Row;"⟩, 9), (⟨"EliminateLoci$Divisor", "shareWithOther", "()V"⟩, 3), (⟨"EliminateLoci$Divisor", "swap", "()V"⟩, 3), (⟨"EliminateLoci$Divisor", "lowerShared", "(II)V"⟩, 3), (⟨"EliminateLoci$Divisor", "makePrimitive", "([J)V"⟩, 3), (⟨"EliminateLoci$Divisor", "divideByShared", "([J)V"⟩, 3), (⟨"EliminateLoci", "moveTo", "(II)V"⟩, 9), (⟨"EliminateLoci", "curveOf", "(I)LEliminateLoci$Curve;"⟩, 9), (⟨"EliminateLoci$Eliminant", "fillEntry", "(III)V"⟩, 4), (⟨"EliminateLoci$Eliminant", "fillMinor", "(II)V"⟩, 4), (⟨"EliminateLoci$RootFinder", "startRoot", "(I)Z"⟩, 4), (⟨"EliminateLoci$RootFinder", "completeRoot", "(I)Z"⟩, 4), (⟨"EliminateLoci$RootFinder", "raiseRoot", "(I)V"⟩, 4), (⟨"EliminateLoci", "slopeByU", "(IIII)J"⟩, 9), (⟨"EliminateLoci", "slopeByV", "(IIII)J"⟩, 9)]
theorem lw_r1 : ∀ q ∈ lw_privs_1, lw_okq q := List.forall_mem_cons.mpr ⟨lw_p0, List.forall_mem_cons.mpr ⟨lw_p1, List.forall_mem_cons.mpr ⟨lw_p2, List.forall_mem_cons.mpr ⟨lw_p3, List.forall_mem_cons.mpr ⟨lw_p4, List.forall_mem_cons.mpr ⟨lw_p5, List.forall_mem_cons.mpr ⟨lw_p6, List.forall_mem_cons.mpr ⟨lw_p7, List.forall_mem_cons.mpr ⟨lw_p8, List.forall_mem_cons.mpr ⟨lw_p9, List.forall_mem_cons.mpr ⟨lw_p10, List.forall_mem_cons.mpr ⟨lw_p11, List.forall_mem_cons.mpr ⟨lw_p12, List.forall_mem_cons.mpr ⟨lw_p13, List.forall_mem_cons.mpr ⟨lw_p14, List.forall_mem_cons.mpr ⟨lw_p15, fun _ h => absurd h List.not_mem_nil⟩⟩⟩⟩⟩⟩⟩⟩⟩⟩⟩⟩⟩⟩⟩⟩
theorem lw_p16 : lw_okq (⟨"EliminateLociModel", "work", "()V"⟩, 17) := ⟨⟨by decide +kernel, by decide +kernel⟩, List.mem_of_getElem? (i := 426) (by decide +kernel), List.mem_of_getElem? (i := 498) (by decide +kernel), List.mem_of_getElem? (i := 499) (by decide +kernel)⟩
theorem lw_p17 : lw_okq (⟨"EliminateLociModel", "divisor", "()V"⟩, 17) := ⟨⟨by decide +kernel, by decide +kernel⟩, List.mem_of_getElem? (i := 426) (by decide +kernel), List.mem_of_getElem? (i := 502) (by decide +kernel), List.mem_of_getElem? (i := 503) (by decide +kernel)⟩
theorem lw_p18 : lw_okq (⟨"EliminateLociModel", "locus", "()V"⟩, 17) := ⟨⟨by decide +kernel, by decide +kernel⟩, List.mem_of_getElem? (i := 426) (by decide +kernel), List.mem_of_getElem? (i := 515) (by decide +kernel), List.mem_of_getElem? (i := 516) (by decide +kernel)⟩
theorem lw_p19 : lw_okq (⟨"EliminateLociModel", "emptied", "()V"⟩, 17) := ⟨⟨by decide +kernel, by decide +kernel⟩, List.mem_of_getElem? (i := 426) (by decide +kernel), List.mem_of_getElem? (i := 519) (by decide +kernel), List.mem_of_getElem? (i := 520) (by decide +kernel)⟩
theorem lw_p20 : lw_okq (⟨"EliminateLociModel", "entry", "(IIJJJ)V"⟩, 17) := ⟨⟨by decide +kernel, by decide +kernel⟩, List.mem_of_getElem? (i := 426) (by decide +kernel), List.mem_of_getElem? (i := 523) (by decide +kernel), List.mem_of_getElem? (i := 524) (by decide +kernel)⟩
theorem lw_p21 : lw_okq (⟨"EliminateLociModel", "minorsOf", "(I)V"⟩, 17) := ⟨⟨by decide +kernel, by decide +kernel⟩, List.mem_of_getElem? (i := 426) (by decide +kernel), List.mem_of_getElem? (i := 527) (by decide +kernel), List.mem_of_getElem? (i := 528) (by decide +kernel)⟩
theorem lw_p22 : lw_okq (⟨"EliminateLociModel", "tell", "(II)V"⟩, 17) := ⟨⟨by decide +kernel, by decide +kernel⟩, List.mem_of_getElem? (i := 426) (by decide +kernel), List.mem_of_getElem? (i := 534) (by decide +kernel), List.mem_of_getElem? (i := 535) (by decide +kernel)⟩
theorem lw_p23 : lw_okq (⟨"EliminateLociModel", "isPower", "(II)Z"⟩, 17) := ⟨⟨by decide +kernel, by decide +kernel⟩, List.mem_of_getElem? (i := 426) (by decide +kernel), List.mem_of_getElem? (i := 544) (by decide +kernel), List.mem_of_getElem? (i := 545) (by decide +kernel)⟩
theorem lw_p24 : lw_okq (⟨"EliminateLociModel", "raise", "(I)V"⟩, 17) := ⟨⟨by decide +kernel, by decide +kernel⟩, List.mem_of_getElem? (i := 426) (by decide +kernel), List.mem_of_getElem? (i := 556) (by decide +kernel), List.mem_of_getElem? (i := 557) (by decide +kernel)⟩
theorem lw_p25 : lw_okq (⟨"EliminateLociModel", "envelope", "()V"⟩, 17) := ⟨⟨by decide +kernel, by decide +kernel⟩, List.mem_of_getElem? (i := 426) (by decide +kernel), List.mem_of_getElem? (i := 560) (by decide +kernel), List.mem_of_getElem? (i := 561) (by decide +kernel)⟩
theorem lw_p26 : lw_okq (⟨"EliminateLociModel", "valueOf", "(III)J"⟩, 17) := ⟨⟨by decide +kernel, by decide +kernel⟩, List.mem_of_getElem? (i := 426) (by decide +kernel), List.mem_of_getElem? (i := 576) (by decide +kernel), List.mem_of_getElem? (i := 577) (by decide +kernel)⟩
theorem lw_p27 : lw_okq (⟨"EliminateLociModel", "isOn", "(IJJJ)I"⟩, 17) := ⟨⟨by decide +kernel, by decide +kernel⟩, List.mem_of_getElem? (i := 426) (by decide +kernel), List.mem_of_getElem? (i := 614) (by decide +kernel), List.mem_of_getElem? (i := 615) (by decide +kernel)⟩
theorem lw_p28 : lw_okq (⟨"EliminateLociModel", "traced", "(IJJJJ)J"⟩, 17) := ⟨⟨by decide +kernel, by decide +kernel⟩, List.mem_of_getElem? (i := 426) (by decide +kernel), List.mem_of_getElem? (i := 619) (by decide +kernel), List.mem_of_getElem? (i := 620) (by decide +kernel)⟩
theorem lw_p29 : lw_okq (⟨"EliminateLociModel", "slope", "(IIII)J"⟩, 17) := ⟨⟨by decide +kernel, by decide +kernel⟩, List.mem_of_getElem? (i := 426) (by decide +kernel), List.mem_of_getElem? (i := 631) (by decide +kernel), List.mem_of_getElem? (i := 632) (by decide +kernel)⟩
def lw_privs_2 : List (MethodName × Nat) := [(⟨"EliminateLociModel", "work", "()V"⟩, 17), (⟨"EliminateLociModel", "divisor", "()V"⟩, 17), (⟨"EliminateLociModel", "locus", "()V"⟩, 17), (⟨"EliminateLociModel", "emptied", "()V"⟩, 17), (⟨"EliminateLociModel", "entry", "(IIJJJ)V"⟩, 17), (⟨"EliminateLociModel", "minorsOf", "(I)V"⟩, 17), (⟨"EliminateLociModel", "tell", "(II)V"⟩, 17), (⟨"EliminateLociModel", "isPower", "(II)Z"⟩, 17), (⟨"EliminateLociModel", "raise", "(I)V"⟩, 17), (⟨"EliminateLociModel", "envelope", "()V"⟩, 17), (⟨"EliminateLociModel", "valueOf", "(III)J"⟩, 17), (⟨"EliminateLociModel", "isOn", "(IJJJ)I"⟩, 17), (⟨"EliminateLociModel", "traced", "(IJJJJ)J"⟩, 17), (⟨"EliminateLociModel", "slope", "(IIII)J"⟩, 17)]
theorem lw_r2 : ∀ q ∈ lw_privs_2, lw_okq q := List.forall_mem_cons.mpr ⟨lw_p16, List.forall_mem_cons.mpr ⟨lw_p17, List.forall_mem_cons.mpr ⟨lw_p18, List.forall_mem_cons.mpr ⟨lw_p19, List.forall_mem_cons.mpr ⟨lw_p20, List.forall_mem_cons.mpr ⟨lw_p21, List.forall_mem_cons.mpr ⟨lw_p22, List.forall_mem_cons.mpr ⟨lw_p23, List.forall_mem_cons.mpr ⟨lw_p24, List.forall_mem_cons.mpr ⟨lw_p25, List.forall_mem_cons.mpr ⟨lw_p26, List.forall_mem_cons.mpr ⟨lw_p27, List.forall_mem_cons.mpr ⟨lw_p28, List.forall_mem_cons.mpr ⟨lw_p29, fun _ h => absurd h List.not_mem_nil⟩⟩⟩⟩⟩⟩⟩⟩⟩⟩⟩⟩⟩⟩
def lw_privs : List (MethodName × Nat) := lw_privs_1 ++ (lw_privs_2)
def lw_tbl : List Cond := k2_sels lw_privs ++ tables_1
theorem lw_privs_ok : ∀ q ∈ lw_privs, lw_okq q := by
  show ∀ q ∈ lw_privs_1 ++ (lw_privs_2), lw_okq q
  exact List.forall_mem_append.mpr ⟨lw_r1, lw_r2⟩

def RX0 : String := "EliminateLoci$Curve"
def TX0 : u_T := fun k => match k with
  | 0 => ("EliminateLoci$Curve", "root", "LEliminateLoci$Plane;", true)
  | 1 => ("EliminateLoci$Curve", "power", "I", false)
  | 2 => ("EliminateLoci$Curve", "known", "Z", false)
  | _ => ("EliminateLoci$Curve", "found", "Z", false)
def tyX0 : Nat → FieldType := fun k => match k with
  | 0 => .object "EliminateLoci$Plane"
  | 1 => .int
  | 2 => .boolean
  | _ => .boolean
theorem nmX0 : ∀ a, a < 4 → ∀ b, b < 4 → a ≠ b → (TX0 a).2.1 ≠ (TX0 b).2.1 := by decide +kernel
theorem tyX0_ok : ∀ k, k < 4 → parseFieldDescriptor (TX0 k).2.2.1 = some (tyX0 k) := by decide +kernel
abbrev cX0_init : ByteArray := prog_2_method_1_code
def yX0_init : MethodName := ⟨RX0, "<init>", "()V"⟩
def RX1 : String := "EliminateLoci$Divisor"
def TX1 : u_T := fun k => match k with
  | 0 => ("EliminateLoci$Divisor", "shared", "[J", true)
  | 1 => ("EliminateLoci$Divisor", "other", "[J", true)
  | _ => ("EliminateLoci$Divisor", "spare", "[J", true)
def tyX1 : Nat → FieldType := fun k => match k with
  | 0 => .array .long
  | 1 => .array .long
  | _ => .array .long
theorem nmX1 : ∀ a, a < 3 → ∀ b, b < 3 → a ≠ b → (TX1 a).2.1 ≠ (TX1 b).2.1 := by decide +kernel
theorem tyX1_ok : ∀ k, k < 3 → parseFieldDescriptor (TX1 k).2.2.1 = some (tyX1 k) := by decide +kernel
abbrev cX1_init : ByteArray := prog_3_method_1_code
def yX1_init : MethodName := ⟨RX1, "<init>", "()V"⟩
abbrev cX1_free : ByteArray := prog_3_method_2_code
def yX1_free : MethodName := ⟨RX1, "free", "(LEliminateLoci$Row;LEliminateLoci$Row;)V"⟩
abbrev cX1_shareWithOther : ByteArray := prog_3_method_3_code
def yX1_shareWithOther : MethodName := ⟨RX1, "shareWithOther", "()V"⟩
abbrev cX1_swap : ByteArray := prog_3_method_4_code
def yX1_swap : MethodName := ⟨RX1, "swap", "()V"⟩
abbrev cX1_lowerShared : ByteArray := prog_3_method_5_code
def yX1_lowerShared : MethodName := ⟨RX1, "lowerShared", "(II)V"⟩
abbrev cX1_makePrimitive : ByteArray := prog_3_method_6_code
def yX1_makePrimitive : MethodName := ⟨RX1, "makePrimitive", "([J)V"⟩
abbrev cX1_divideByShared : ByteArray := prog_3_method_7_code
def yX1_divideByShared : MethodName := ⟨RX1, "divideByShared", "([J)V"⟩
def RX2 : String := "EliminateLoci$Eliminant"
def TX2 : u_T := fun k => match k with
  | 0 => ("EliminateLoci$Eliminant", "first", "[LEliminateLoci$Plane;", true)
  | 1 => ("EliminateLoci$Eliminant", "second", "[LEliminateLoci$Plane;", true)
  | 2 => ("EliminateLoci$Eliminant", "entries", "[LEliminateLoci$Plane;", true)
  | _ => ("EliminateLoci$Eliminant", "minors", "[LEliminateLoci$Plane;", true)
def tyX2 : Nat → FieldType := fun k => match k with
  | 0 => .array (.object "EliminateLoci$Plane")
  | 1 => .array (.object "EliminateLoci$Plane")
  | 2 => .array (.object "EliminateLoci$Plane")
  | _ => .array (.object "EliminateLoci$Plane")
theorem nmX2 : ∀ a, a < 4 → ∀ b, b < 4 → a ≠ b → (TX2 a).2.1 ≠ (TX2 b).2.1 := by decide +kernel
theorem tyX2_ok : ∀ k, k < 4 → parseFieldDescriptor (TX2 k).2.2.1 = some (tyX2 k) := by decide +kernel
abbrev cX2_init : ByteArray := prog_4_method_1_code
def yX2_init : MethodName := ⟨RX2, "<init>", "()V"⟩
abbrev cX2_takeMover : ByteArray := prog_4_method_2_code
def yX2_takeMover : MethodName := ⟨RX2, "takeMover", "(LEliminateLoci$Row;)I"⟩
abbrev cX2_takeLines : ByteArray := prog_4_method_3_code
def yX2_takeLines : MethodName := ⟨RX2, "takeLines", "(LEliminateLoci$Row;)I"⟩
abbrev cX2_setScaledLine : ByteArray := prog_4_method_4_code
def yX2_setScaledLine : MethodName := ⟨RX2, "setScaledLine", "(LEliminateLoci$Plane;LEliminateLoci$Row;IJ)V"⟩
abbrev cX2_resultant : ByteArray := prog_4_method_5_code
def yX2_resultant : MethodName := ⟨RX2, "resultant", "(I)LEliminateLoci$Plane;"⟩
abbrev cX2_fillEntry : ByteArray := prog_4_method_6_code
def yX2_fillEntry : MethodName := ⟨RX2, "fillEntry", "(III)V"⟩
abbrev cX2_fillMinor : ByteArray := prog_4_method_7_code
def yX2_fillMinor : MethodName := ⟨RX2, "fillMinor", "(II)V"⟩
def RX3 : String := "EliminateLoci$Plane"
def TX3 : u_T := fun k => match k with
  | 0 => ("EliminateLoci$Plane", "cells", "[J", true)
  | _ => ("EliminateLoci$Plane", "bound", "I", false)
def tyX3 : Nat → FieldType := fun k => match k with
  | 0 => .array .long
  | _ => .int
theorem nmX3 : ∀ a, a < 2 → ∀ b, b < 2 → a ≠ b → (TX3 a).2.1 ≠ (TX3 b).2.1 := by decide +kernel
theorem tyX3_ok : ∀ k, k < 2 → parseFieldDescriptor (TX3 k).2.2.1 = some (tyX3 k) := by decide +kernel
abbrev cX3_init : ByteArray := prog_5_method_1_code
def yX3_init : MethodName := ⟨RX3, "<init>", "()V"⟩
abbrev cX3_erase : ByteArray := prog_5_method_2_code
def yX3_erase : MethodName := ⟨RX3, "erase", "()V"⟩
abbrev cX3_setLine : ByteArray := prog_5_method_3_code
def yX3_setLine : MethodName := ⟨RX3, "setLine", "(JJJ)V"⟩
abbrev cX3_copy : ByteArray := prog_5_method_4_code
def yX3_copy : MethodName := ⟨RX3, "copy", "(LEliminateLoci$Plane;)V"⟩
abbrev cX3_addProduct : ByteArray := prog_5_method_5_code
def yX3_addProduct : MethodName := ⟨RX3, "addProduct", "(LEliminateLoci$Plane;LEliminateLoci$Plane;J)V"⟩
abbrev cX3_tighten : ByteArray := prog_5_method_6_code
def yX3_tighten : MethodName := ⟨RX3, "tighten", "()V"⟩
abbrev cX3_firstOfBound : ByteArray := prog_5_method_7_code
def yX3_firstOfBound : MethodName := ⟨RX3, "firstOfBound", "()I"⟩
abbrev cX3_makePrimitive : ByteArray := prog_5_method_8_code
def yX3_makePrimitive : MethodName := ⟨RX3, "makePrimitive", "()V"⟩
abbrev cX3_sumOfSizes : ByteArray := prog_5_method_9_code
def yX3_sumOfSizes : MethodName := ⟨RX3, "sumOfSizes", "()J"⟩
abbrev cX3_isSame : ByteArray := prog_5_method_10_code
def yX3_isSame : MethodName := ⟨RX3, "isSame", "(LEliminateLoci$Plane;)Z"⟩
abbrev cX3_scaledValue : ByteArray := prog_5_method_11_code
def yX3_scaledValue : MethodName := ⟨RX3, "scaledValue", "(JJJ)J"⟩
def RX4 : String := "EliminateLoci$RootFinder"
def TX4 : u_T := fun k => match k with
  | 0 => ("EliminateLoci$RootFinder", "whole", "LEliminateLoci$Plane;", true)
  | 1 => ("EliminateLoci$RootFinder", "root", "LEliminateLoci$Plane;", true)
  | 2 => ("EliminateLoci$RootFinder", "raised", "LEliminateLoci$Plane;", true)
  | _ => ("EliminateLoci$RootFinder", "spare", "LEliminateLoci$Plane;", true)
def tyX4 : Nat → FieldType := fun k => match k with
  | 0 => .object "EliminateLoci$Plane"
  | 1 => .object "EliminateLoci$Plane"
  | 2 => .object "EliminateLoci$Plane"
  | _ => .object "EliminateLoci$Plane"
theorem nmX4 : ∀ a, a < 4 → ∀ b, b < 4 → a ≠ b → (TX4 a).2.1 ≠ (TX4 b).2.1 := by decide +kernel
theorem tyX4_ok : ∀ k, k < 4 → parseFieldDescriptor (TX4 k).2.2.1 = some (tyX4 k) := by decide +kernel
abbrev cX4_init : ByteArray := prog_6_method_1_code
def yX4_init : MethodName := ⟨RX4, "<init>", "()V"⟩
abbrev cX4_findRoot : ByteArray := prog_6_method_2_code
def yX4_findRoot : MethodName := ⟨RX4, "findRoot", "(LEliminateLoci$Plane;LEliminateLoci$Curve;)Z"⟩
abbrev cX4_startRoot : ByteArray := prog_6_method_3_code
def yX4_startRoot : MethodName := ⟨RX4, "startRoot", "(I)Z"⟩
abbrev cX4_completeRoot : ByteArray := prog_6_method_4_code
def yX4_completeRoot : MethodName := ⟨RX4, "completeRoot", "(I)Z"⟩
abbrev cX4_raiseRoot : ByteArray := prog_6_method_5_code
def yX4_raiseRoot : MethodName := ⟨RX4, "raiseRoot", "(I)V"⟩
def RX5 : String := "EliminateLoci$Row"
def TX5 : u_T := fun k => match k with
  | _ => ("EliminateLoci$Row", "parts", "[[J", true)
def tyX5 : Nat → FieldType := fun k => match k with
  | _ => .array (.array .long)
theorem nmX5 : ∀ a, a < 1 → ∀ b, b < 1 → a ≠ b → (TX5 a).2.1 ≠ (TX5 b).2.1 := by decide +kernel
theorem tyX5_ok : ∀ k, k < 1 → parseFieldDescriptor (TX5 k).2.2.1 = some (tyX5 k) := by decide +kernel
abbrev cX5_init : ByteArray := prog_7_method_1_code
def yX5_init : MethodName := ⟨RX5, "<init>", "()V"⟩
abbrev cX5_highestPower : ByteArray := prog_7_method_2_code
def yX5_highestPower : MethodName := ⟨RX5, "highestPower", "()I"⟩
abbrev cX5_isZero : ByteArray := prog_7_method_3_code
def yX5_isZero : MethodName := ⟨RX5, "isZero", "(I)Z"⟩
abbrev cX5_countAndErase : ByteArray := prog_7_method_4_code
def yX5_countAndErase : MethodName := ⟨RX5, "countAndErase", "()I"⟩
abbrev cX5_topOf : ByteArray := prog_7_method_5_code
def yX5_topOf : MethodName := ⟨RX5, "topOf", "([J)I"⟩
def RX6 : String := "EliminateLoci"
def TX6 : u_T := fun k => match k with
  | 0 => ("EliminateLoci", "row", "LEliminateLoci$Row;", true)
  | 1 => ("EliminateLoci", "freedRow", "LEliminateLoci$Row;", true)
  | 2 => ("EliminateLoci", "divisor", "LEliminateLoci$Divisor;", true)
  | 3 => ("EliminateLoci", "eliminant", "LEliminateLoci$Eliminant;", true)
  | 4 => ("EliminateLoci", "finder", "LEliminateLoci$RootFinder;", true)
  | 5 => ("EliminateLoci", "locus", "LEliminateLoci$Curve;", true)
  | 6 => ("EliminateLoci", "envelope", "LEliminateLoci$Curve;", true)
  | 7 => ("EliminateLoci", "spot", "[J", true)
  | _ => ("EliminateLoci", "freedKnown", "Z", false)
def tyX6 : Nat → FieldType := fun k => match k with
  | 0 => .object "EliminateLoci$Row"
  | 1 => .object "EliminateLoci$Row"
  | 2 => .object "EliminateLoci$Divisor"
  | 3 => .object "EliminateLoci$Eliminant"
  | 4 => .object "EliminateLoci$RootFinder"
  | 5 => .object "EliminateLoci$Curve"
  | 6 => .object "EliminateLoci$Curve"
  | 7 => .array .long
  | _ => .boolean
theorem nmX6 : ∀ a, a < 9 → ∀ b, b < 9 → a ≠ b → (TX6 a).2.1 ≠ (TX6 b).2.1 := by decide +kernel
theorem tyX6_ok : ∀ k, k < 9 → parseFieldDescriptor (TX6 k).2.2.1 = some (tyX6 k) := by decide +kernel
abbrev cX6_init : ByteArray := prog_1_method_1_code
def yX6_init : MethodName := ⟨RX6, "<init>", "()V"⟩
abbrev cX6_term : ByteArray := prog_1_method_2_code
def yX6_term : MethodName := ⟨RX6, "term", "(III)I"⟩
abbrev cX6_clear : ByteArray := prog_1_method_3_code
def yX6_clear : MethodName := ⟨RX6, "clear", "()I"⟩
abbrev cX6_degree : ByteArray := prog_1_method_4_code
def yX6_degree : MethodName := ⟨RX6, "degree", "(I)I"⟩
abbrev cX6_freed : ByteArray := prog_1_method_5_code
def yX6_freed : MethodName := ⟨RX6, "freed", "(II)I"⟩
abbrev cX6_value : ByteArray := prog_1_method_6_code
def yX6_value : MethodName := ⟨RX6, "value", "(III)I"⟩
abbrev cX6_trace : ByteArray := prog_1_method_7_code
def yX6_trace : MethodName := ⟨RX6, "trace", "(I)I"⟩
abbrev cX6_times : ByteArray := prog_1_method_8_code
def yX6_times : MethodName := ⟨RX6, "times", "(I)I"⟩
abbrev cX6_coefficient : ByteArray := prog_1_method_9_code
def yX6_coefficient : MethodName := ⟨RX6, "coefficient", "(III)J"⟩
abbrev cX6_side : ByteArray := prog_1_method_10_code
def yX6_side : MethodName := ⟨RX6, "side", "(IIII)I"⟩
abbrev cX6_at : ByteArray := prog_1_method_11_code
def yX6_at : MethodName := ⟨RX6, "at", "(IIIII)I"⟩
abbrev cX6_follows : ByteArray := prog_1_method_12_code
def yX6_follows : MethodName := ⟨RX6, "follows", "(II)I"⟩
abbrev cX6_touches : ByteArray := prog_1_method_13_code
def yX6_touches : MethodName := ⟨RX6, "touches", "(II)I"⟩
abbrev cX6_isPart : ByteArray := prog_1_method_14_code
def yX6_isPart : MethodName := ⟨RX6, "isPart", "(I)Z"⟩
abbrev cX6_isPower : ByteArray := prog_1_method_15_code
def yX6_isPower : MethodName := ⟨RX6, "isPower", "(I)Z"⟩
abbrev cX6_isSort : ByteArray := prog_1_method_16_code
def yX6_isSort : MethodName := ⟨RX6, "isSort", "(I)Z"⟩
abbrev cX6_isWithin : ByteArray := prog_1_method_17_code
def yX6_isWithin : MethodName := ⟨RX6, "isWithin", "(II)Z"⟩
abbrev cX6_isParameter : ByteArray := prog_1_method_18_code
def yX6_isParameter : MethodName := ⟨RX6, "isParameter", "(II)Z"⟩
abbrev cX6_isPlace : ByteArray := prog_1_method_19_code
def yX6_isPlace : MethodName := ⟨RX6, "isPlace", "(III)Z"⟩
abbrev cX6_forget : ByteArray := prog_1_method_20_code
def yX6_forget : MethodName := ⟨RX6, "forget", "()V"⟩
abbrev cX6_freeRow : ByteArray := prog_1_method_21_code
def yX6_freeRow : MethodName := ⟨RX6, "freeRow", "()LEliminateLoci$Row;"⟩
abbrev cX6_curveOf : ByteArray := prog_1_method_22_code
def yX6_curveOf : MethodName := ⟨RX6, "curveOf", "(I)LEliminateLoci$Curve;"⟩
abbrev cX6_moveTo : ByteArray := prog_1_method_23_code
def yX6_moveTo : MethodName := ⟨RX6, "moveTo", "(II)V"⟩
abbrev cX6_slopeByU : ByteArray := prog_1_method_24_code
def yX6_slopeByU : MethodName := ⟨RX6, "slopeByU", "(IIII)J"⟩
abbrev cX6_slopeByV : ByteArray := prog_1_method_25_code
def yX6_slopeByV : MethodName := ⟨RX6, "slopeByV", "(IIII)J"⟩
abbrev cX6_powerOf : ByteArray := prog_1_method_26_code
def yX6_powerOf : MethodName := ⟨RX6, "powerOf", "(JI)J"⟩
abbrev cX6_commonOf : ByteArray := prog_1_method_27_code
def yX6_commonOf : MethodName := ⟨RX6, "commonOf", "(JJ)J"⟩
abbrev cX6_rootOf : ByteArray := prog_1_method_28_code
def yX6_rootOf : MethodName := ⟨RX6, "rootOf", "(JI)J"⟩
abbrev cX6_isPowerWithin : ByteArray := prog_1_method_29_code
def yX6_isPowerWithin : MethodName := ⟨RX6, "isPowerWithin", "(JIJ)Z"⟩
abbrev cX6_slotOf : ByteArray := prog_1_method_30_code
def yX6_slotOf : MethodName := ⟨RX6, "slotOf", "(II)I"⟩
def RX7 : String := "EliminateLociModel"
def TX7 : u_T := fun k => match k with
  | 0 => ("EliminateLociModel", "row", "[I", true)
  | 1 => ("EliminateLociModel", "free", "[J", true)
  | 2 => ("EliminateLociModel", "most", "I", false)
  | 3 => ("EliminateLociModel", "freeMost", "I", false)
  | 4 => ("EliminateLociModel", "known", "Z", false)
  | 5 => ("EliminateLociModel", "has", "[Z", true)
  | 6 => ("EliminateLociModel", "traces", "[J", true)
  | 7 => ("EliminateLociModel", "degrees", "[I", true)
  | 8 => ("EliminateLociModel", "powers", "[I", true)
  | 9 => ("EliminateLociModel", "one", "[J", true)
  | 10 => ("EliminateLociModel", "two", "[J", true)
  | 11 => ("EliminateLociModel", "entries", "[J", true)
  | 12 => ("EliminateLociModel", "minors", "[J", true)
  | 13 => ("EliminateLociModel", "whole", "[J", true)
  | 14 => ("EliminateLociModel", "root", "[J", true)
  | 15 => ("EliminateLociModel", "power", "[J", true)
  | _ => ("EliminateLociModel", "other", "[J", true)
def tyX7 : Nat → FieldType := fun k => match k with
  | 0 => .array .int
  | 1 => .array .long
  | 2 => .int
  | 3 => .int
  | 4 => .boolean
  | 5 => .array .boolean
  | 6 => .array .long
  | 7 => .array .int
  | 8 => .array .int
  | 9 => .array .long
  | 10 => .array .long
  | 11 => .array .long
  | 12 => .array .long
  | 13 => .array .long
  | 14 => .array .long
  | 15 => .array .long
  | _ => .array .long
theorem nmX7 : ∀ a, a < 17 → ∀ b, b < 17 → a ≠ b → (TX7 a).2.1 ≠ (TX7 b).2.1 := by decide +kernel
theorem tyX7_ok : ∀ k, k < 17 → parseFieldDescriptor (TX7 k).2.2.1 = some (tyX7 k) := by decide +kernel
abbrev cX7_init : ByteArray := prog_9_method_1_code
def yX7_init : MethodName := ⟨RX7, "<init>", "()V"⟩
abbrev cX7_term : ByteArray := prog_9_method_2_code
def yX7_term : MethodName := ⟨RX7, "term", "(III)I"⟩
abbrev cX7_clear : ByteArray := prog_9_method_3_code
def yX7_clear : MethodName := ⟨RX7, "clear", "()I"⟩
abbrev cX7_common : ByteArray := prog_9_method_4_code
def yX7_common : MethodName := ⟨RX7, "common", "(JJ)J"⟩
abbrev cX7_degreeOf : ByteArray := prog_9_method_5_code
def yX7_degreeOf : MethodName := ⟨RX7, "degreeOf", "([J)I"⟩
abbrev cX7_reduce : ByteArray := prog_9_method_6_code
def yX7_reduce : MethodName := ⟨RX7, "reduce", "([J)V"⟩
abbrev cX7_divisor : ByteArray := prog_9_method_7_code
def yX7_divisor : MethodName := ⟨RX7, "divisor", "()V"⟩
abbrev cX7_work : ByteArray := prog_9_method_8_code
def yX7_work : MethodName := ⟨RX7, "work", "()V"⟩
abbrev cX7_entry : ByteArray := prog_9_method_9_code
def yX7_entry : MethodName := ⟨RX7, "entry", "(IIJJJ)V"⟩
abbrev cX7_emptied : ByteArray := prog_9_method_10_code
def yX7_emptied : MethodName := ⟨RX7, "emptied", "()V"⟩
abbrev cX7_countOf : ByteArray := prog_9_method_11_code
def yX7_countOf : MethodName := ⟨RX7, "countOf", "(I)I"⟩
abbrev cX7_minorsOf : ByteArray := prog_9_method_12_code
def yX7_minorsOf : MethodName := ⟨RX7, "minorsOf", "(I)V"⟩
abbrev cX7_locus : ByteArray := prog_9_method_13_code
def yX7_locus : MethodName := ⟨RX7, "locus", "()V"⟩
abbrev cX7_envelope : ByteArray := prog_9_method_14_code
def yX7_envelope : MethodName := ⟨RX7, "envelope", "()V"⟩
abbrev cX7_degree2 : ByteArray := prog_9_method_15_code
def yX7_degree2 : MethodName := ⟨RX7, "degree2", "([J)I"⟩
abbrev cX7_firstOf : ByteArray := prog_9_method_16_code
def yX7_firstOf : MethodName := ⟨RX7, "firstOf", "([J)I"⟩
abbrev cX7_tell : ByteArray := prog_9_method_17_code
def yX7_tell : MethodName := ⟨RX7, "tell", "(II)V"⟩
abbrev cX7_rootOf : ByteArray := prog_9_method_18_code
def yX7_rootOf : MethodName := ⟨RX7, "rootOf", "(JI)J"⟩
abbrev cX7_isAbove : ByteArray := prog_9_method_19_code
def yX7_isAbove : MethodName := ⟨RX7, "isAbove", "(JIJ)Z"⟩
abbrev cX7_raise : ByteArray := prog_9_method_20_code
def yX7_raise : MethodName := ⟨RX7, "raise", "(I)V"⟩
abbrev cX7_isPower : ByteArray := prog_9_method_21_code
def yX7_isPower : MethodName := ⟨RX7, "isPower", "(II)Z"⟩
abbrev cX7_degree : ByteArray := prog_9_method_22_code
def yX7_degree : MethodName := ⟨RX7, "degree", "(I)I"⟩
abbrev cX7_freed : ByteArray := prog_9_method_23_code
def yX7_freed : MethodName := ⟨RX7, "freed", "(II)I"⟩
abbrev cX7_isParameter : ByteArray := prog_9_method_24_code
def yX7_isParameter : MethodName := ⟨RX7, "isParameter", "(II)Z"⟩
abbrev cX7_raised : ByteArray := prog_9_method_25_code
def yX7_raised : MethodName := ⟨RX7, "raised", "(JI)J"⟩
abbrev cX7_valueOf : ByteArray := prog_9_method_26_code
def yX7_valueOf : MethodName := ⟨RX7, "valueOf", "(III)J"⟩
abbrev cX7_value : ByteArray := prog_9_method_27_code
def yX7_value : MethodName := ⟨RX7, "value", "(III)I"⟩
abbrev cX7_isSort : ByteArray := prog_9_method_28_code
def yX7_isSort : MethodName := ⟨RX7, "isSort", "(I)Z"⟩
abbrev cX7_trace : ByteArray := prog_9_method_29_code
def yX7_trace : MethodName := ⟨RX7, "trace", "(I)I"⟩
abbrev cX7_times : ByteArray := prog_9_method_30_code
def yX7_times : MethodName := ⟨RX7, "times", "(I)I"⟩
abbrev cX7_coefficient : ByteArray := prog_9_method_31_code
def yX7_coefficient : MethodName := ⟨RX7, "coefficient", "(III)J"⟩
abbrev cX7_isPlace : ByteArray := prog_9_method_32_code
def yX7_isPlace : MethodName := ⟨RX7, "isPlace", "(III)Z"⟩
abbrev cX7_side : ByteArray := prog_9_method_33_code
def yX7_side : MethodName := ⟨RX7, "side", "(IIII)I"⟩
abbrev cX7_at : ByteArray := prog_9_method_34_code
def yX7_at : MethodName := ⟨RX7, "at", "(IIIII)I"⟩
abbrev cX7_rest : ByteArray := prog_9_method_35_code
def yX7_rest : MethodName := ⟨RX7, "rest", "(JJ)J"⟩
abbrev cX7_traced : ByteArray := prog_9_method_36_code
def yX7_traced : MethodName := ⟨RX7, "traced", "(IJJJJ)J"⟩
abbrev cX7_isOn : ByteArray := prog_9_method_37_code
def yX7_isOn : MethodName := ⟨RX7, "isOn", "(IJJJ)I"⟩
abbrev cX7_follows : ByteArray := prog_9_method_38_code
def yX7_follows : MethodName := ⟨RX7, "follows", "(II)I"⟩
abbrev cX7_slope : ByteArray := prog_9_method_39_code
def yX7_slope : MethodName := ⟨RX7, "slope", "(IIII)J"⟩
abbrev cX7_touches : ByteArray := prog_9_method_40_code
def yX7_touches : MethodName := ⟨RX7, "touches", "(II)I"⟩
def RJ6 : String := "java/lang/Integer"
def TJ6 : u_T := fun k => match k with
  | _ => ("", "", "", false)
def tyJ6 : Nat → FieldType := fun k => match k with
  | _ => .int
theorem nmJ6 : ∀ a, a < 0 → ∀ b, b < 0 → a ≠ b → (TJ6 a).2.1 ≠ (TJ6 b).2.1 := by decide +kernel
theorem tyJ6_ok : ∀ k, k < 0 → parseFieldDescriptor (TJ6 k).2.2.1 = some (tyJ6 k) := by decide +kernel
abbrev cJ6_bitCount_0f7a4 : ByteArray := prog_10_method_49_code
def yJ6_bitCount_0f7a4 : MethodName := ⟨RJ6, "bitCount", "(I)I"⟩
def RJ9 : String := "java/lang/Math"
def TJ9 : u_T := fun k => match k with
  | _ => ("", "", "", false)
def tyJ9 : Nat → FieldType := fun k => match k with
  | _ => .int
theorem nmJ9 : ∀ a, a < 0 → ∀ b, b < 0 → a ≠ b → (TJ9 a).2.1 ≠ (TJ9 b).2.1 := by decide +kernel
theorem tyJ9_ok : ∀ k, k < 0 → parseFieldDescriptor (TJ9 k).2.2.1 = some (tyJ9 k) := by decide +kernel
abbrev cJ9_abs_067f4 : ByteArray := prog_11_method_61_code
def yJ9_abs_067f4 : MethodName := ⟨RJ9, "abs", "(J)J"⟩
abbrev cJ9_min_7cf53 : ByteArray := prog_11_method_69_code
def yJ9_min_7cf53 : MethodName := ⟨RJ9, "min", "(II)I"⟩
def RJ10 : String := "java/lang/System"
def TJ10 : u_T := fun k => match k with
  | _ => ("", "", "", false)
def tyJ10 : Nat → FieldType := fun k => match k with
  | _ => .int
theorem nmJ10 : ∀ a, a < 0 → ∀ b, b < 0 → a ≠ b → (TJ10 a).2.1 ≠ (TJ10 b).2.1 := by decide +kernel
theorem tyJ10_ok : ∀ k, k < 0 → parseFieldDescriptor (TJ10 k).2.2.1 = some (tyJ10 k) := by decide +kernel
def RJ7 : String := "java/util/Arrays"
def TJ7 : u_T := fun k => match k with
  | _ => ("", "", "", false)
def tyJ7 : Nat → FieldType := fun k => match k with
  | _ => .int
theorem nmJ7 : ∀ a, a < 0 → ∀ b, b < 0 → a ≠ b → (TJ7 a).2.1 ≠ (TJ7 b).2.1 := by decide +kernel
theorem tyJ7_ok : ∀ k, k < 0 → parseFieldDescriptor (TJ7 k).2.2.1 = some (tyJ7 k) := by decide +kernel
abbrev cJ7_fill_d0a16 : ByteArray := prog_13_method_101_code
def yJ7_fill_d0a16 : MethodName := ⟨RJ7, "fill", "([JJ)V"⟩
abbrev cL_law : ByteArray := code
abbrev vwCl : List vw_C := [(RX0, TX0, 4), (RX1, TX1, 3), (RX2, TX2, 4), (RX3, TX3, 2), (RX4, TX4, 4), (RX5, TX5, 1), (RX6, TX6, 9), (RX7, TX7, 17)]
