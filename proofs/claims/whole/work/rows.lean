section
-- ===== PART A: goes FIRST, ahead of the names: the tables' words, and 'selects' of the private methods out of them =====
/-- a private method of a class that the tables say can be made, by its rows of tables_1 -/
def lw_okq (q : MethodName × Nat) : Prop := (q.1.cls ≠ "java/lang/invoke/MethodHandle" ∧ q.1.cls ≠ "java/lang/invoke/VarHandle") ∧ Cond.instantiable q.1.cls q.2 ∈ tables_1 ∧ Cond.privateMethod q.1 ∈ tables_1 ∧ Cond.instanceMethod q.1 ∈ tables_1
theorem lw_p0 : lw_okq (⟨"GrindingCircuit$SteadyState", "solveSize", "(LGrindingCircuit$Settings;II)V"⟩, 4) := ⟨⟨by decide +kernel, by decide +kernel⟩, List.mem_of_getElem? (i := 149) (by decide +kernel), List.mem_of_getElem? (i := 236) (by decide +kernel), List.mem_of_getElem? (i := 237) (by decide +kernel)⟩
theorem lw_p1 : lw_okq (⟨"GrindingCircuit$Simulation", "firstOfBin", "(I)I"⟩, 9) := ⟨⟨by decide +kernel, by decide +kernel⟩, List.mem_of_getElem? (i := 66) (by decide +kernel), List.mem_of_getElem? (i := 321) (by decide +kernel), List.mem_of_getElem? (i := 322) (by decide +kernel)⟩
theorem lw_p2 : lw_okq (⟨"GrindingCircuit$Lot", "coarserBy", "(LGrindingCircuit$Lot;)I"⟩, 5) := ⟨⟨by decide +kernel, by decide +kernel⟩, List.mem_of_getElem? (i := 73) (by decide +kernel), List.mem_of_getElem? (i := 330) (by decide +kernel), List.mem_of_getElem? (i := 331) (by decide +kernel)⟩
theorem lw_p3 : lw_okq (⟨"GrindingCircuit$Simulation", "nextEvent", "()I"⟩, 9) := ⟨⟨by decide +kernel, by decide +kernel⟩, List.mem_of_getElem? (i := 66) (by decide +kernel), List.mem_of_getElem? (i := 351) (by decide +kernel), List.mem_of_getElem? (i := 352) (by decide +kernel)⟩
theorem lw_p4 : lw_okq (⟨"GrindingCircuit$Simulation", "finishIfDue", "(LGrindingCircuit$Settings;)V"⟩, 9) := ⟨⟨by decide +kernel, by decide +kernel⟩, List.mem_of_getElem? (i := 66) (by decide +kernel), List.mem_of_getElem? (i := 359) (by decide +kernel), List.mem_of_getElem? (i := 360) (by decide +kernel)⟩
theorem lw_p5 : lw_okq (⟨"GrindingCircuit$Simulation", "takePlannedLots", "()V"⟩, 9) := ⟨⟨by decide +kernel, by decide +kernel⟩, List.mem_of_getElem? (i := 66) (by decide +kernel), List.mem_of_getElem? (i := 376) (by decide +kernel), List.mem_of_getElem? (i := 377) (by decide +kernel)⟩
theorem lw_p6 : lw_okq (⟨"GrindingCircuit$Simulation", "countBefore", "(LGrindingCircuit$Lot;I)I"⟩, 9) := ⟨⟨by decide +kernel, by decide +kernel⟩, List.mem_of_getElem? (i := 66) (by decide +kernel), List.mem_of_getElem? (i := 401) (by decide +kernel), List.mem_of_getElem? (i := 402) (by decide +kernel)⟩
theorem lw_p7 : lw_okq (⟨"GrindingCircuitModel", "shareOf", "(II)I"⟩, 7) := ⟨⟨by decide +kernel, by decide +kernel⟩, List.mem_of_getElem? (i := 469) (by decide +kernel), List.mem_of_getElem? (i := 511) (by decide +kernel), List.mem_of_getElem? (i := 512) (by decide +kernel)⟩
theorem lw_p8 : lw_okq (⟨"GrindingCircuitModel", "set", "(II)I"⟩, 7) := ⟨⟨by decide +kernel, by decide +kernel⟩, List.mem_of_getElem? (i := 469) (by decide +kernel), List.mem_of_getElem? (i := 519) (by decide +kernel), List.mem_of_getElem? (i := 520) (by decide +kernel)⟩
theorem lw_p9 : lw_okq (⟨"GrindingCircuitModel", "wrongSteady", "(II)I"⟩, 7) := ⟨⟨by decide +kernel, by decide +kernel⟩, List.mem_of_getElem? (i := 469) (by decide +kernel), List.mem_of_getElem? (i := 535) (by decide +kernel), List.mem_of_getElem? (i := 536) (by decide +kernel)⟩
theorem lw_p10 : lw_okq (⟨"GrindingCircuitModel", "asSet", "()V"⟩, 7) := ⟨⟨by decide +kernel, by decide +kernel⟩, List.mem_of_getElem? (i := 469) (by decide +kernel), List.mem_of_getElem? (i := 542) (by decide +kernel), List.mem_of_getElem? (i := 543) (by decide +kernel)⟩
theorem lw_p11 : lw_okq (⟨"GrindingCircuitModel", "layLoads", "()Z"⟩, 7) := ⟨⟨by decide +kernel, by decide +kernel⟩, List.mem_of_getElem? (i := 469) (by decide +kernel), List.mem_of_getElem? (i := 546) (by decide +kernel), List.mem_of_getElem? (i := 547) (by decide +kernel)⟩
theorem lw_p12 : lw_okq (⟨"GrindingCircuitModel", "powerOf", "()J"⟩, 7) := ⟨⟨by decide +kernel, by decide +kernel⟩, List.mem_of_getElem? (i := 469) (by decide +kernel), List.mem_of_getElem? (i := 567) (by decide +kernel), List.mem_of_getElem? (i := 568) (by decide +kernel)⟩
theorem lw_p13 : lw_okq (⟨"GrindingCircuitModel", "asCut", "(I)V"⟩, 7) := ⟨⟨by decide +kernel, by decide +kernel⟩, List.mem_of_getElem? (i := 469) (by decide +kernel), List.mem_of_getElem? (i := 576) (by decide +kernel), List.mem_of_getElem? (i := 577) (by decide +kernel)⟩
theorem lw_p14 : lw_okq (⟨"GrindingCircuitModel", "make", "(IIII)I"⟩, 7) := ⟨⟨by decide +kernel, by decide +kernel⟩, List.mem_of_getElem? (i := 469) (by decide +kernel), List.mem_of_getElem? (i := 596) (by decide +kernel), List.mem_of_getElem? (i := 597) (by decide +kernel)⟩
theorem lw_p15 : lw_okq (⟨"GrindingCircuitModel", "comes", "(I)V"⟩, 7) := ⟨⟨by decide +kernel, by decide +kernel⟩, List.mem_of_getElem? (i := 469) (by decide +kernel), List.mem_of_getElem? (i := 603) (by decide +kernel), List.mem_of_getElem? (i := 604) (by decide +kernel)⟩
def lw_privs_1 : List (MethodName × Nat) := [(⟨"GrindingCircuit$SteadyState", "solveSize", "(LGrindingCircuit$Settings;II)V"⟩, 4), (⟨"GrindingCircuit$Simulation", "firstOfBin", "(I)I"⟩, 9), (⟨"GrindingCircuit$Lot", "coarserBy", "(LGrindingCircuit$Lot;)I"⟩, 5), (⟨"GrindingCircuit$Simulation", "nextEvent", "()I"⟩, 9), (⟨"GrindingCircuit$Simulation", "finishIfDue", "(LGrindingCircuit$Settings;)V"⟩, 9), (⟨"GrindingCircuit$Simulation", "takePlannedLots", "()V"⟩, 9), (⟨"GrindingCircuit$Simulation", "countBefore", "(LGrindingCircuit$Lot;I)I"⟩, 9), (⟨"GrindingCircuitModel", "shareOf", "(II)I"⟩, 7), (⟨"GrindingCircuitModel", "set", "(II)I"⟩, 7), (⟨"GrindingCircuitModel", "wrongSteady", "(II)I"⟩, 7), (⟨"GrindingCircuitModel", "asSet", "()V"⟩, 7), (⟨"GrindingCircuitModel", "layLoads", "()Z"⟩, 7), (⟨"GrindingCircuitModel", "powerOf", "()J"⟩, 7), (⟨"GrindingCircuitModel", "asCut", "(I)V"⟩, 7), (⟨"GrindingCircuitModel", "make", "(IIII)I"⟩, 7), (⟨"GrindingCircuitModel", "comes", "(I)V"⟩, 7)]
theorem lw_r1 : ∀ q ∈ lw_privs_1, lw_okq q := List.forall_mem_cons.mpr ⟨lw_p0, List.forall_mem_cons.mpr ⟨lw_p1, List.forall_mem_cons.mpr ⟨lw_p2, List.forall_mem_cons.mpr ⟨lw_p3, List.forall_mem_cons.mpr ⟨lw_p4, List.forall_mem_cons.mpr ⟨lw_p5, List.forall_mem_cons.mpr ⟨lw_p6, List.forall_mem_cons.mpr ⟨lw_p7, List.forall_mem_cons.mpr ⟨lw_p8, List.forall_mem_cons.mpr ⟨lw_p9, List.forall_mem_cons.mpr ⟨lw_p10, List.forall_mem_cons.mpr ⟨lw_p11, List.forall_mem_cons.mpr ⟨lw_p12, List.forall_mem_cons.mpr ⟨lw_p13, List.forall_mem_cons.mpr ⟨lw_p14, List.forall_mem_cons.mpr ⟨lw_p15, fun _ h => absurd h List.not_mem_nil⟩⟩⟩⟩⟩⟩⟩⟩⟩⟩⟩⟩⟩⟩⟩⟩
theorem lw_p16 : lw_okq (⟨"GrindingCircuitModel", "start", "()V"⟩, 7) := ⟨⟨by decide +kernel, by decide +kernel⟩, List.mem_of_getElem? (i := 469) (by decide +kernel), List.mem_of_getElem? (i := 607) (by decide +kernel), List.mem_of_getElem? (i := 608) (by decide +kernel)⟩
theorem lw_p17 : lw_okq (⟨"GrindingCircuitModel", "inBin", "(I)I"⟩, 7) := ⟨⟨by decide +kernel, by decide +kernel⟩, List.mem_of_getElem? (i := 469) (by decide +kernel), List.mem_of_getElem? (i := 611) (by decide +kernel), List.mem_of_getElem? (i := 612) (by decide +kernel)⟩
theorem lw_p18 : lw_okq (⟨"GrindingCircuitModel", "of", "(II)I"⟩, 7) := ⟨⟨by decide +kernel, by decide +kernel⟩, List.mem_of_getElem? (i := 469) (by decide +kernel), List.mem_of_getElem? (i := 615) (by decide +kernel), List.mem_of_getElem? (i := 616) (by decide +kernel)⟩
theorem lw_p19 : lw_okq (⟨"GrindingCircuitModel", "place", "(I)I"⟩, 7) := ⟨⟨by decide +kernel, by decide +kernel⟩, List.mem_of_getElem? (i := 469) (by decide +kernel), List.mem_of_getElem? (i := 619) (by decide +kernel), List.mem_of_getElem? (i := 620) (by decide +kernel)⟩
theorem lw_p20 : lw_okq (⟨"GrindingCircuitModel", "isAhead", "(II)Z"⟩, 7) := ⟨⟨by decide +kernel, by decide +kernel⟩, List.mem_of_getElem? (i := 469) (by decide +kernel), List.mem_of_getElem? (i := 623) (by decide +kernel), List.mem_of_getElem? (i := 624) (by decide +kernel)⟩
theorem lw_p21 : lw_okq (⟨"GrindingCircuitModel", "ahead", "(II)I"⟩, 7) := ⟨⟨by decide +kernel, by decide +kernel⟩, List.mem_of_getElem? (i := 469) (by decide +kernel), List.mem_of_getElem? (i := 627) (by decide +kernel), List.mem_of_getElem? (i := 628) (by decide +kernel)⟩
theorem lw_p22 : lw_okq (⟨"GrindingCircuitModel", "weight", "(I)I"⟩, 7) := ⟨⟨by decide +kernel, by decide +kernel⟩, List.mem_of_getElem? (i := 469) (by decide +kernel), List.mem_of_getElem? (i := 631) (by decide +kernel), List.mem_of_getElem? (i := 632) (by decide +kernel)⟩
theorem lw_p23 : lw_okq (⟨"GrindingCircuitModel", "minute", "()V"⟩, 7) := ⟨⟨by decide +kernel, by decide +kernel⟩, List.mem_of_getElem? (i := 469) (by decide +kernel), List.mem_of_getElem? (i := 643) (by decide +kernel), List.mem_of_getElem? (i := 644) (by decide +kernel)⟩
theorem lw_p24 : lw_okq (⟨"GrindingCircuitModel", "finish", "()V"⟩, 7) := ⟨⟨by decide +kernel, by decide +kernel⟩, List.mem_of_getElem? (i := 469) (by decide +kernel), List.mem_of_getElem? (i := 647) (by decide +kernel), List.mem_of_getElem? (i := 648) (by decide +kernel)⟩
theorem lw_p25 : lw_okq (⟨"GrindingCircuitModel", "isLot", "(I)Z"⟩, 7) := ⟨⟨by decide +kernel, by decide +kernel⟩, List.mem_of_getElem? (i := 469) (by decide +kernel), List.mem_of_getElem? (i := 671) (by decide +kernel), List.mem_of_getElem? (i := 672) (by decide +kernel)⟩
def lw_privs_2 : List (MethodName × Nat) := [(⟨"GrindingCircuitModel", "start", "()V"⟩, 7), (⟨"GrindingCircuitModel", "inBin", "(I)I"⟩, 7), (⟨"GrindingCircuitModel", "of", "(II)I"⟩, 7), (⟨"GrindingCircuitModel", "place", "(I)I"⟩, 7), (⟨"GrindingCircuitModel", "isAhead", "(II)Z"⟩, 7), (⟨"GrindingCircuitModel", "ahead", "(II)I"⟩, 7), (⟨"GrindingCircuitModel", "weight", "(I)I"⟩, 7), (⟨"GrindingCircuitModel", "minute", "()V"⟩, 7), (⟨"GrindingCircuitModel", "finish", "()V"⟩, 7), (⟨"GrindingCircuitModel", "isLot", "(I)Z"⟩, 7)]
theorem lw_r2 : ∀ q ∈ lw_privs_2, lw_okq q := List.forall_mem_cons.mpr ⟨lw_p16, List.forall_mem_cons.mpr ⟨lw_p17, List.forall_mem_cons.mpr ⟨lw_p18, List.forall_mem_cons.mpr ⟨lw_p19, List.forall_mem_cons.mpr ⟨lw_p20, List.forall_mem_cons.mpr ⟨lw_p21, List.forall_mem_cons.mpr ⟨lw_p22, List.forall_mem_cons.mpr ⟨lw_p23, List.forall_mem_cons.mpr ⟨lw_p24, List.forall_mem_cons.mpr ⟨lw_p25, fun _ h => absurd h List.not_mem_nil⟩⟩⟩⟩⟩⟩⟩⟩⟩⟩
def lw_privs : List (MethodName × Nat) := lw_privs_1 ++ (lw_privs_2)
def lw_tbl : List Cond := k2_sels lw_privs ++ tables_1
theorem lw_privs_ok : ∀ q ∈ lw_privs, lw_okq q := by
  show ∀ q ∈ lw_privs_1 ++ (lw_privs_2), lw_okq q
  exact List.forall_mem_append.mpr ⟨lw_r1, lw_r2⟩

def RX0 : String := "GrindingCircuit$Lot"
def TX0 : u_T := fun k => match k with
  | 0 => ("GrindingCircuit$Lot", "masses", "[I", true)
  | 1 => ("GrindingCircuit$Lot", "place", "I", false)
  | 2 => ("GrindingCircuit$Lot", "comesAt", "I", false)
  | 3 => ("GrindingCircuit$Lot", "arrival", "I", false)
  | _ => ("GrindingCircuit$Lot", "timesGround", "I", false)
def tyX0 : Nat → FieldType := fun k => match k with
  | 0 => .array .int
  | 1 => .int
  | 2 => .int
  | 3 => .int
  | _ => .int
abbrev wsX00 : List Cond := u_ws RX0 TX0 5
theorem nmX0 : ∀ a, a < 5 → ∀ b, b < 5 → a ≠ b → (TX0 a).2.1 ≠ (TX0 b).2.1 := by decide +kernel
theorem tyX0_ok : ∀ k, k < 5 → parseFieldDescriptor (TX0 k).2.2.1 = some (tyX0 k) := by decide +kernel
abbrev cX0_init : ByteArray := prog_2_method_1_code
def yX0_init : MethodName := ⟨RX0, "<init>", "()V"⟩
abbrev cX0_copyFrom : ByteArray := prog_2_method_2_code
def yX0_copyFrom : MethodName := ⟨RX0, "copyFrom", "(LGrindingCircuit$Lot;)V"⟩
abbrev cX0_standsBefore : ByteArray := prog_2_method_3_code
def yX0_standsBefore : MethodName := ⟨RX0, "standsBefore", "(LGrindingCircuit$Lot;I)Z"⟩
abbrev cX0_coarserBy : ByteArray := prog_2_method_4_code
def yX0_coarserBy : MethodName := ⟨RX0, "coarserBy", "(LGrindingCircuit$Lot;)I"⟩
abbrev cX0_energyToGrind : ByteArray := prog_2_method_5_code
def yX0_energyToGrind : MethodName := ⟨RX0, "energyToGrind", "([I)I"⟩
abbrev cX0_breakOre : ByteArray := prog_2_method_6_code
def yX0_breakOre : MethodName := ⟨RX0, "breakOre", "([[I)V"⟩
abbrev cX0_classify : ByteArray := prog_2_method_7_code
def yX0_classify : MethodName := ⟨RX0, "classify", "([I[I)V"⟩
def RX1 : String := "GrindingCircuit$Plant"
def TX1 : u_T := fun k => match k with
  | 0 => ("GrindingCircuit$Plant", "settings", "LGrindingCircuit$Settings;", true)
  | _ => ("GrindingCircuit$Plant", "simulation", "LGrindingCircuit$Simulation;", true)
def tyX1 : Nat → FieldType := fun k => match k with
  | 0 => .object "GrindingCircuit$Settings"
  | _ => .object "GrindingCircuit$Simulation"
abbrev wsX10 : List Cond := u_ws RX1 TX1 2
theorem nmX1 : ∀ a, a < 2 → ∀ b, b < 2 → a ≠ b → (TX1 a).2.1 ≠ (TX1 b).2.1 := by decide +kernel
theorem tyX1_ok : ∀ k, k < 2 → parseFieldDescriptor (TX1 k).2.2.1 = some (tyX1 k) := by decide +kernel
abbrev cX1_init : ByteArray := prog_3_method_1_code
def yX1_init : MethodName := ⟨RX1, "<init>", "()V"⟩
abbrev cX1_copyFrom : ByteArray := prog_3_method_2_code
def yX1_copyFrom : MethodName := ⟨RX1, "copyFrom", "(LGrindingCircuit$Plant;)V"⟩
def RX2 : String := "GrindingCircuit$Settings"
def TX2 : u_T := fun k => match k with
  | 0 => ("GrindingCircuit$Settings", "shares", "[[I", true)
  | 1 => ("GrindingCircuit$Settings", "returns", "[I", true)
  | 2 => ("GrindingCircuit$Settings", "works", "[I", true)
  | 3 => ("GrindingCircuit$Settings", "feeds", "[I", true)
  | 4 => ("GrindingCircuit$Settings", "rate", "I", false)
  | _ => ("GrindingCircuit$Settings", "rule", "I", false)
def tyX2 : Nat → FieldType := fun k => match k with
  | 0 => .array (.array .int)
  | 1 => .array .int
  | 2 => .array .int
  | 3 => .array .int
  | 4 => .int
  | _ => .int
abbrev wsX20 : List Cond := u_ws RX2 TX2 6
theorem nmX2 : ∀ a, a < 6 → ∀ b, b < 6 → a ≠ b → (TX2 a).2.1 ≠ (TX2 b).2.1 := by decide +kernel
theorem tyX2_ok : ∀ k, k < 6 → parseFieldDescriptor (TX2 k).2.2.1 = some (tyX2 k) := by decide +kernel
abbrev cX2_init : ByteArray := prog_4_method_1_code
def yX2_init : MethodName := ⟨RX2, "<init>", "()V"⟩
abbrev cX2_putShare : ByteArray := prog_4_method_2_code
def yX2_putShare : MethodName := ⟨RX2, "putShare", "(III)V"⟩
abbrev cX2_copyFrom : ByteArray := prog_4_method_3_code
def yX2_copyFrom : MethodName := ⟨RX2, "copyFrom", "(LGrindingCircuit$Settings;)V"⟩
def RX3 : String := "GrindingCircuit$Simulation"
def TX3 : u_T := fun k => match k with
  | 0 => ("GrindingCircuit$Simulation", "lots", "[LGrindingCircuit$Lot;", true)
  | 1 => ("GrindingCircuit$Simulation", "productMasses", "[I", true)
  | 2 => ("GrindingCircuit$Simulation", "lotCount", "I", false)
  | 3 => ("GrindingCircuit$Simulation", "time", "I", false)
  | 4 => ("GrindingCircuit$Simulation", "arrivals", "I", false)
  | 5 => ("GrindingCircuit$Simulation", "ground", "I", false)
  | 6 => ("GrindingCircuit$Simulation", "finishTime", "I", false)
  | 7 => ("GrindingCircuit$Simulation", "energy", "I", false)
  | _ => ("GrindingCircuit$Simulation", "returnedMass", "I", false)
def tyX3 : Nat → FieldType := fun k => match k with
  | 0 => .array (.object "GrindingCircuit$Lot")
  | 1 => .array .int
  | 2 => .int
  | 3 => .int
  | 4 => .int
  | 5 => .int
  | 6 => .int
  | 7 => .int
  | _ => .int
abbrev wsX30 : List Cond := u_ws RX3 TX3 9
theorem nmX3 : ∀ a, a < 9 → ∀ b, b < 9 → a ≠ b → (TX3 a).2.1 ≠ (TX3 b).2.1 := by decide +kernel
theorem tyX3_ok : ∀ k, k < 9 → parseFieldDescriptor (TX3 k).2.2.1 = some (tyX3 k) := by decide +kernel
abbrev cX3_init : ByteArray := prog_5_method_1_code
def yX3_init : MethodName := ⟨RX3, "<init>", "()V"⟩
abbrev cX3_copyFrom : ByteArray := prog_5_method_2_code
def yX3_copyFrom : MethodName := ⟨RX3, "copyFrom", "(LGrindingCircuit$Simulation;)V"⟩
abbrev cX3_isFull : ByteArray := prog_5_method_3_code
def yX3_isFull : MethodName := ⟨RX3, "isFull", "()Z"⟩
abbrev cX3_isIdle : ByteArray := prog_5_method_4_code
def yX3_isIdle : MethodName := ⟨RX3, "isIdle", "()Z"⟩
abbrev cX3_hasLot : ByteArray := prog_5_method_5_code
def yX3_hasLot : MethodName := ⟨RX3, "hasLot", "(I)Z"⟩
abbrev cX3_create : ByteArray := prog_5_method_6_code
def yX3_create : MethodName := ⟨RX3, "create", "(IIII)I"⟩
abbrev cX3_plan : ByteArray := prog_5_method_7_code
def yX3_plan : MethodName := ⟨RX3, "plan", "(LGrindingCircuit$Lot;I)V"⟩
abbrev cX3_putIntoBin : ByteArray := prog_5_method_8_code
def yX3_putIntoBin : MethodName := ⟨RX3, "putIntoBin", "(LGrindingCircuit$Lot;)V"⟩
abbrev cX3_run : ByteArray := prog_5_method_9_code
def yX3_run : MethodName := ⟨RX3, "run", "(ILGrindingCircuit$Settings;)V"⟩
abbrev cX3_nextEvent : ByteArray := prog_5_method_10_code
def yX3_nextEvent : MethodName := ⟨RX3, "nextEvent", "()I"⟩
abbrev cX3_finishIfDue : ByteArray := prog_5_method_11_code
def yX3_finishIfDue : MethodName := ⟨RX3, "finishIfDue", "(LGrindingCircuit$Settings;)V"⟩
abbrev cX3_takePlannedLots : ByteArray := prog_5_method_12_code
def yX3_takePlannedLots : MethodName := ⟨RX3, "takePlannedLots", "()V"⟩
abbrev cX3_startIfIdle : ByteArray := prog_5_method_13_code
def yX3_startIfIdle : MethodName := ⟨RX3, "startIfIdle", "(LGrindingCircuit$Settings;)V"⟩
abbrev cX3_countBin : ByteArray := prog_5_method_14_code
def yX3_countBin : MethodName := ⟨RX3, "countBin", "()I"⟩
abbrev cX3_firstOfBin : ByteArray := prog_5_method_15_code
def yX3_firstOfBin : MethodName := ⟨RX3, "firstOfBin", "(I)I"⟩
abbrev cX3_lotAt : ByteArray := prog_5_method_16_code
def yX3_lotAt : MethodName := ⟨RX3, "lotAt", "(II)I"⟩
abbrev cX3_countBefore : ByteArray := prog_5_method_17_code
def yX3_countBefore : MethodName := ⟨RX3, "countBefore", "(LGrindingCircuit$Lot;I)I"⟩
def RX4 : String := "GrindingCircuit$SteadyState"
def TX4 : u_T := fun k => match k with
  | 0 => ("GrindingCircuit$SteadyState", "loads", "[J", true)
  | 1 => ("GrindingCircuit$SteadyState", "cutReturns", "[I", true)
  | 2 => ("GrindingCircuit$SteadyState", "scale", "J", false)
  | _ => ("GrindingCircuit$SteadyState", "exists", "Z", false)
def tyX4 : Nat → FieldType := fun k => match k with
  | 0 => .array .long
  | 1 => .array .int
  | 2 => .long
  | _ => .boolean
abbrev wsX40 : List Cond := u_ws RX4 TX4 4
theorem nmX4 : ∀ a, a < 4 → ∀ b, b < 4 → a ≠ b → (TX4 a).2.1 ≠ (TX4 b).2.1 := by decide +kernel
theorem tyX4_ok : ∀ k, k < 4 → parseFieldDescriptor (TX4 k).2.2.1 = some (tyX4 k) := by decide +kernel
abbrev cX4_init : ByteArray := prog_6_method_1_code
def yX4_init : MethodName := ⟨RX4, "<init>", "()V"⟩
abbrev cX4_solveCut : ByteArray := prog_6_method_2_code
def yX4_solveCut : MethodName := ⟨RX4, "solveCut", "(LGrindingCircuit$Settings;I)V"⟩
abbrev cX4_solve : ByteArray := prog_6_method_3_code
def yX4_solve : MethodName := ⟨RX4, "solve", "(LGrindingCircuit$Settings;[I)V"⟩
abbrev cX4_solveSize : ByteArray := prog_6_method_4_code
def yX4_solveSize : MethodName := ⟨RX4, "solveSize", "(LGrindingCircuit$Settings;II)V"⟩
abbrev cX4_brokenInto : ByteArray := prog_6_method_5_code
def yX4_brokenInto : MethodName := ⟨RX4, "brokenInto", "(LGrindingCircuit$Settings;I)J"⟩
abbrev cX4_sumOfLoads : ByteArray := prog_6_method_6_code
def yX4_sumOfLoads : MethodName := ⟨RX4, "sumOfLoads", "()J"⟩
abbrev cX4_scaledPower : ByteArray := prog_6_method_7_code
def yX4_scaledPower : MethodName := ⟨RX4, "scaledPower", "([I)J"⟩
def RX5 : String := "GrindingCircuit"
def TX5 : u_T := fun k => match k with
  | 0 => ("GrindingCircuit", "plant", "LGrindingCircuit$Plant;", true)
  | 1 => ("GrindingCircuit", "slots", "[LGrindingCircuit$Plant;", true)
  | 2 => ("GrindingCircuit", "slotFilled", "[Z", true)
  | _ => ("GrindingCircuit", "steady", "LGrindingCircuit$SteadyState;", true)
def tyX5 : Nat → FieldType := fun k => match k with
  | 0 => .object "GrindingCircuit$Plant"
  | 1 => .array (.object "GrindingCircuit$Plant")
  | 2 => .array .boolean
  | _ => .object "GrindingCircuit$SteadyState"
abbrev wsX50 : List Cond := u_ws RX5 TX5 4
theorem nmX5 : ∀ a, a < 4 → ∀ b, b < 4 → a ≠ b → (TX5 a).2.1 ≠ (TX5 b).2.1 := by decide +kernel
theorem tyX5_ok : ∀ k, k < 4 → parseFieldDescriptor (TX5 k).2.2.1 = some (tyX5 k) := by decide +kernel
abbrev cX5_init : ByteArray := prog_1_method_1_code
def yX5_init : MethodName := ⟨RX5, "<init>", "()V"⟩
abbrev cX5_setBreakage : ByteArray := prog_1_method_2_code
def yX5_setBreakage : MethodName := ⟨RX5, "setBreakage", "(IIII)I"⟩
abbrev cX5_share : ByteArray := prog_1_method_3_code
def yX5_share : MethodName := ⟨RX5, "share", "(II)I"⟩
abbrev cX5_setReturn : ByteArray := prog_1_method_4_code
def yX5_setReturn : MethodName := ⟨RX5, "setReturn", "(II)I"⟩
abbrev cX5_setWork : ByteArray := prog_1_method_5_code
def yX5_setWork : MethodName := ⟨RX5, "setWork", "(II)I"⟩
abbrev cX5_setFeed : ByteArray := prog_1_method_6_code
def yX5_setFeed : MethodName := ⟨RX5, "setFeed", "(II)I"⟩
abbrev cX5_load : ByteArray := prog_1_method_7_code
def yX5_load : MethodName := ⟨RX5, "load", "(II)J"⟩
abbrev cX5_product : ByteArray := prog_1_method_8_code
def yX5_product : MethodName := ⟨RX5, "product", "(II)J"⟩
abbrev cX5_circulatingLoad : ByteArray := prog_1_method_9_code
def yX5_circulatingLoad : MethodName := ⟨RX5, "circulatingLoad", "(I)J"⟩
abbrev cX5_power : ByteArray := prog_1_method_10_code
def yX5_power : MethodName := ⟨RX5, "power", "(I)J"⟩
abbrev cX5_cutPower : ByteArray := prog_1_method_11_code
def yX5_cutPower : MethodName := ⟨RX5, "cutPower", "(II)J"⟩
abbrev cX5_finestCut : ByteArray := prog_1_method_12_code
def yX5_finestCut : MethodName := ⟨RX5, "finestCut", "(I)I"⟩
abbrev cX5_addLot : ByteArray := prog_1_method_13_code
def yX5_addLot : MethodName := ⟨RX5, "addLot", "(IIII)I"⟩
abbrev cX5_planLot : ByteArray := prog_1_method_14_code
def yX5_planLot : MethodName := ⟨RX5, "planLot", "(IIIII)I"⟩
abbrev cX5_advance : ByteArray := prog_1_method_15_code
def yX5_advance : MethodName := ⟨RX5, "advance", "(I)I"⟩
abbrev cX5_setRate : ByteArray := prog_1_method_16_code
def yX5_setRate : MethodName := ⟨RX5, "setRate", "(I)I"⟩
abbrev cX5_setRule : ByteArray := prog_1_method_17_code
def yX5_setRule : MethodName := ⟨RX5, "setRule", "(I)I"⟩
abbrev cX5_bin : ByteArray := prog_1_method_18_code
def yX5_bin : MethodName := ⟨RX5, "bin", "(I)I"⟩
abbrev cX5_mill : ByteArray := prog_1_method_19_code
def yX5_mill : MethodName := ⟨RX5, "mill", "(I)I"⟩
abbrev cX5_state : ByteArray := prog_1_method_20_code
def yX5_state : MethodName := ⟨RX5, "state", "(I)I"⟩
abbrev cX5_mass : ByteArray := prog_1_method_21_code
def yX5_mass : MethodName := ⟨RX5, "mass", "(II)I"⟩
abbrev cX5_passes : ByteArray := prog_1_method_22_code
def yX5_passes : MethodName := ⟨RX5, "passes", "(I)I"⟩
abbrev cX5_produced : ByteArray := prog_1_method_23_code
def yX5_produced : MethodName := ⟨RX5, "produced", "(I)I"⟩
abbrev cX5_total : ByteArray := prog_1_method_24_code
def yX5_total : MethodName := ⟨RX5, "total", "(I)I"⟩
abbrev cX5_save : ByteArray := prog_1_method_25_code
def yX5_save : MethodName := ⟨RX5, "save", "(I)I"⟩
abbrev cX5_restore : ByteArray := prog_1_method_26_code
def yX5_restore : MethodName := ⟨RX5, "restore", "(I)I"⟩
abbrev cX5_isWithin : ByteArray := prog_1_method_27_code
def yX5_isWithin : MethodName := ⟨RX5, "isWithin", "(III)Z"⟩
abbrev cX5_isSize : ByteArray := prog_1_method_28_code
def yX5_isSize : MethodName := ⟨RX5, "isSize", "(I)Z"⟩
abbrev cX5_isZeroOrOne : ByteArray := prog_1_method_29_code
def yX5_isZeroOrOne : MethodName := ⟨RX5, "isZeroOrOne", "(I)Z"⟩
abbrev cX5_isSlot : ByteArray := prog_1_method_30_code
def yX5_isSlot : MethodName := ⟨RX5, "isSlot", "(I)Z"⟩
abbrev cX5_isShareTo : ByteArray := prog_1_method_31_code
def yX5_isShareTo : MethodName := ⟨RX5, "isShareTo", "(II)Z"⟩
abbrev cX5_isLotMass : ByteArray := prog_1_method_32_code
def yX5_isLotMass : MethodName := ⟨RX5, "isLotMass", "(I)Z"⟩
abbrev cX5_areLotMasses : ByteArray := prog_1_method_33_code
def yX5_areLotMasses : MethodName := ⟨RX5, "areLotMasses", "(IIII)Z"⟩
abbrev cX5_exchange : ByteArray := prog_1_method_34_code
def yX5_exchange : MethodName := ⟨RX5, "exchange", "([IIII)I"⟩
abbrev cX5_sizeOrAll : ByteArray := prog_1_method_35_code
def yX5_sizeOrAll : MethodName := ⟨RX5, "sizeOrAll", "([II)I"⟩
abbrev cX5_sum : ByteArray := prog_1_method_36_code
def yX5_sum : MethodName := ⟨RX5, "sum", "([I)I"⟩
abbrev cX5_partOf : ByteArray := prog_1_method_37_code
def yX5_partOf : MethodName := ⟨RX5, "partOf", "(JJI)J"⟩
abbrev cX5_commonDivisor : ByteArray := prog_1_method_38_code
def yX5_commonDivisor : MethodName := ⟨RX5, "commonDivisor", "(JJ)J"⟩
def RX6 : String := "GrindingCircuitModel"
def TX6 : u_T := fun k => match k with
  | 0 => ("GrindingCircuitModel", "at", "[I", true)
  | 1 => ("GrindingCircuitModel", "slots", "[I", true)
  | 2 => ("GrindingCircuitModel", "isSaved", "[Z", true)
  | 3 => ("GrindingCircuitModel", "returns", "[I", true)
  | 4 => ("GrindingCircuitModel", "loads", "[J", true)
  | 5 => ("GrindingCircuitModel", "below", "J", false)
  | _ => ("GrindingCircuitModel", "fresh", "[I", true)
def tyX6 : Nat → FieldType := fun k => match k with
  | 0 => .array .int
  | 1 => .array .int
  | 2 => .array .boolean
  | 3 => .array .int
  | 4 => .array .long
  | 5 => .long
  | _ => .array .int
abbrev wsX60 : List Cond := u_ws RX6 TX6 7
theorem nmX6 : ∀ a, a < 7 → ∀ b, b < 7 → a ≠ b → (TX6 a).2.1 ≠ (TX6 b).2.1 := by decide +kernel
theorem tyX6_ok : ∀ k, k < 7 → parseFieldDescriptor (TX6 k).2.2.1 = some (tyX6 k) := by decide +kernel
abbrev cX6_init : ByteArray := prog_8_method_1_code
def yX6_init : MethodName := ⟨RX6, "<init>", "()V"⟩
abbrev cX6_in : ByteArray := prog_8_method_2_code
def yX6_in : MethodName := ⟨RX6, "in", "(III)Z"⟩
abbrev cX6_isSize : ByteArray := prog_8_method_3_code
def yX6_isSize : MethodName := ⟨RX6, "isSize", "(I)Z"⟩
abbrev cX6_shareOf : ByteArray := prog_8_method_4_code
def yX6_shareOf : MethodName := ⟨RX6, "shareOf", "(II)I"⟩
abbrev cX6_setBreakage : ByteArray := prog_8_method_5_code
def yX6_setBreakage : MethodName := ⟨RX6, "setBreakage", "(IIII)I"⟩
abbrev cX6_share : ByteArray := prog_8_method_6_code
def yX6_share : MethodName := ⟨RX6, "share", "(II)I"⟩
abbrev cX6_set : ByteArray := prog_8_method_7_code
def yX6_set : MethodName := ⟨RX6, "set", "(II)I"⟩
abbrev cX6_setReturn : ByteArray := prog_8_method_8_code
def yX6_setReturn : MethodName := ⟨RX6, "setReturn", "(II)I"⟩
abbrev cX6_setWork : ByteArray := prog_8_method_9_code
def yX6_setWork : MethodName := ⟨RX6, "setWork", "(II)I"⟩
abbrev cX6_setFeed : ByteArray := prog_8_method_10_code
def yX6_setFeed : MethodName := ⟨RX6, "setFeed", "(II)I"⟩
abbrev cX6_asSet : ByteArray := prog_8_method_11_code
def yX6_asSet : MethodName := ⟨RX6, "asSet", "()V"⟩
abbrev cX6_asCut : ByteArray := prog_8_method_12_code
def yX6_asCut : MethodName := ⟨RX6, "asCut", "(I)V"⟩
abbrev cX6_layLoads : ByteArray := prog_8_method_13_code
def yX6_layLoads : MethodName := ⟨RX6, "layLoads", "()Z"⟩
abbrev cX6_part : ByteArray := prog_8_method_14_code
def yX6_part : MethodName := ⟨RX6, "part", "(JJI)J"⟩
abbrev cX6_isPart : ByteArray := prog_8_method_15_code
def yX6_isPart : MethodName := ⟨RX6, "isPart", "(I)Z"⟩
abbrev cX6_wrongSteady : ByteArray := prog_8_method_16_code
def yX6_wrongSteady : MethodName := ⟨RX6, "wrongSteady", "(II)I"⟩
abbrev cX6_load : ByteArray := prog_8_method_17_code
def yX6_load : MethodName := ⟨RX6, "load", "(II)J"⟩
abbrev cX6_product : ByteArray := prog_8_method_18_code
def yX6_product : MethodName := ⟨RX6, "product", "(II)J"⟩
abbrev cX6_circulatingLoad : ByteArray := prog_8_method_19_code
def yX6_circulatingLoad : MethodName := ⟨RX6, "circulatingLoad", "(I)J"⟩
abbrev cX6_powerOf : ByteArray := prog_8_method_20_code
def yX6_powerOf : MethodName := ⟨RX6, "powerOf", "()J"⟩
abbrev cX6_power : ByteArray := prog_8_method_21_code
def yX6_power : MethodName := ⟨RX6, "power", "(I)J"⟩
abbrev cX6_cutPower : ByteArray := prog_8_method_22_code
def yX6_cutPower : MethodName := ⟨RX6, "cutPower", "(II)J"⟩
abbrev cX6_finestCut : ByteArray := prog_8_method_23_code
def yX6_finestCut : MethodName := ⟨RX6, "finestCut", "(I)I"⟩
abbrev cX6_lot : ByteArray := prog_8_method_24_code
def yX6_lot : MethodName := ⟨RX6, "lot", "(II)I"⟩
abbrev cX6_of : ByteArray := prog_8_method_25_code
def yX6_of : MethodName := ⟨RX6, "of", "(II)I"⟩
abbrev cX6_weight : ByteArray := prog_8_method_26_code
def yX6_weight : MethodName := ⟨RX6, "weight", "(I)I"⟩
abbrev cX6_ahead : ByteArray := prog_8_method_27_code
def yX6_ahead : MethodName := ⟨RX6, "ahead", "(II)I"⟩
abbrev cX6_isAhead : ByteArray := prog_8_method_28_code
def yX6_isAhead : MethodName := ⟨RX6, "isAhead", "(II)Z"⟩
abbrev cX6_place : ByteArray := prog_8_method_29_code
def yX6_place : MethodName := ⟨RX6, "place", "(I)I"⟩
abbrev cX6_inBin : ByteArray := prog_8_method_30_code
def yX6_inBin : MethodName := ⟨RX6, "inBin", "(I)I"⟩
abbrev cX6_comes : ByteArray := prog_8_method_31_code
def yX6_comes : MethodName := ⟨RX6, "comes", "(I)V"⟩
abbrev cX6_start : ByteArray := prog_8_method_32_code
def yX6_start : MethodName := ⟨RX6, "start", "()V"⟩
abbrev cX6_finish : ByteArray := prog_8_method_33_code
def yX6_finish : MethodName := ⟨RX6, "finish", "()V"⟩
abbrev cX6_minute : ByteArray := prog_8_method_34_code
def yX6_minute : MethodName := ⟨RX6, "minute", "()V"⟩
abbrev cX6_isMass : ByteArray := prog_8_method_35_code
def yX6_isMass : MethodName := ⟨RX6, "isMass", "(I)Z"⟩
abbrev cX6_areMasses : ByteArray := prog_8_method_36_code
def yX6_areMasses : MethodName := ⟨RX6, "areMasses", "(IIII)Z"⟩
abbrev cX6_make : ByteArray := prog_8_method_37_code
def yX6_make : MethodName := ⟨RX6, "make", "(IIII)I"⟩
abbrev cX6_addLot : ByteArray := prog_8_method_38_code
def yX6_addLot : MethodName := ⟨RX6, "addLot", "(IIII)I"⟩
abbrev cX6_planLot : ByteArray := prog_8_method_39_code
def yX6_planLot : MethodName := ⟨RX6, "planLot", "(IIIII)I"⟩
abbrev cX6_advance : ByteArray := prog_8_method_40_code
def yX6_advance : MethodName := ⟨RX6, "advance", "(I)I"⟩
abbrev cX6_setRate : ByteArray := prog_8_method_41_code
def yX6_setRate : MethodName := ⟨RX6, "setRate", "(I)I"⟩
abbrev cX6_setRule : ByteArray := prog_8_method_42_code
def yX6_setRule : MethodName := ⟨RX6, "setRule", "(I)I"⟩
abbrev cX6_bin : ByteArray := prog_8_method_43_code
def yX6_bin : MethodName := ⟨RX6, "bin", "(I)I"⟩
abbrev cX6_mill : ByteArray := prog_8_method_44_code
def yX6_mill : MethodName := ⟨RX6, "mill", "(I)I"⟩
abbrev cX6_isLot : ByteArray := prog_8_method_45_code
def yX6_isLot : MethodName := ⟨RX6, "isLot", "(I)Z"⟩
abbrev cX6_state : ByteArray := prog_8_method_46_code
def yX6_state : MethodName := ⟨RX6, "state", "(I)I"⟩
abbrev cX6_mass : ByteArray := prog_8_method_47_code
def yX6_mass : MethodName := ⟨RX6, "mass", "(II)I"⟩
abbrev cX6_passes : ByteArray := prog_8_method_48_code
def yX6_passes : MethodName := ⟨RX6, "passes", "(I)I"⟩
abbrev cX6_produced : ByteArray := prog_8_method_49_code
def yX6_produced : MethodName := ⟨RX6, "produced", "(I)I"⟩
abbrev cX6_total : ByteArray := prog_8_method_50_code
def yX6_total : MethodName := ⟨RX6, "total", "(I)I"⟩
abbrev cX6_save : ByteArray := prog_8_method_51_code
def yX6_save : MethodName := ⟨RX6, "save", "(I)I"⟩
abbrev cX6_restore : ByteArray := prog_8_method_52_code
def yX6_restore : MethodName := ⟨RX6, "restore", "(I)I"⟩
def RJ9 : String := "java/lang/Math"
def TJ9 : u_T := fun k => match k with
  | _ => ("", "", "", false)
def tyJ9 : Nat → FieldType := fun k => match k with
  | _ => .int
abbrev wsJ90 : List Cond := u_ws RJ9 TJ9 0
theorem nmJ9 : ∀ a, a < 0 → ∀ b, b < 0 → a ≠ b → (TJ9 a).2.1 ≠ (TJ9 b).2.1 := by decide +kernel
theorem tyJ9_ok : ∀ k, k < 0 → parseFieldDescriptor (TJ9 k).2.2.1 = some (tyJ9 k) := by decide +kernel
abbrev cJ9_min_7cf53 : ByteArray := prog_9_method_69_code
def yJ9_min_7cf53 : MethodName := ⟨RJ9, "min", "(II)I"⟩
def RJ10 : String := "java/lang/System"
def TJ10 : u_T := fun k => match k with
  | _ => ("", "", "", false)
def tyJ10 : Nat → FieldType := fun k => match k with
  | _ => .int
abbrev wsJ100 : List Cond := u_ws RJ10 TJ10 0
theorem nmJ10 : ∀ a, a < 0 → ∀ b, b < 0 → a ≠ b → (TJ10 a).2.1 ≠ (TJ10 b).2.1 := by decide +kernel
theorem tyJ10_ok : ∀ k, k < 0 → parseFieldDescriptor (TJ10 k).2.2.1 = some (tyJ10 k) := by decide +kernel
def RL : String := "GrindingCircuitLaw"
abbrev cL_law : ByteArray := code
def yL_law : MethodName := ⟨RL, "law", "([I)Z"⟩
abbrev vwCl : List vw_C := [(RX0, TX0, 5), (RX1, TX1, 2), (RX2, TX2, 6), (RX3, TX3, 9), (RX4, TX4, 4), (RX5, TX5, 4), (RX6, TX6, 7)]
/-- the words that a call may carry on -/
def gt : List Cond := lw_tbl.filter goodWord
theorem gt_of {w : Cond} (h : w ∈ tables_1) (hg : goodWord w = true) : w ∈ gt := List.mem_filter.mpr ⟨List.mem_append_right _ h, hg⟩
theorem gt_sel {w : Cond} (h : w ∈ k2_sels lw_privs) (hg : goodWord w = true) : w ∈ gt := List.mem_filter.mpr ⟨List.mem_append_left _ h, hg⟩
theorem gt_good {w : Cond} (h : w ∈ gt) : (w.onTables && w.keeps) = true ∨ ∃ ty, w = .arrayClass ty := good_of_word (List.mem_filter.mp h).2
theorem gt_tbl {w : Cond} (h : w ∈ gt) : w ∈ lw_tbl := (List.mem_filter.mp h).1
theorem mw_0 : Cond.initialized "GrindingCircuitLaw" ∈ gt := gt_of (List.mem_of_getElem? (i := 0) (by decide +kernel)) (by decide +kernel)
theorem mw_1 : Cond.initialized "GrindingCircuit" ∈ gt := gt_of (List.mem_of_getElem? (i := 1) (by decide +kernel)) (by decide +kernel)
theorem mw_2 : Cond.initialized "GrindingCircuit$Plant" ∈ gt := gt_of (List.mem_of_getElem? (i := 2) (by decide +kernel)) (by decide +kernel)
theorem mw_3 : Cond.initialized "GrindingCircuit$Settings" ∈ gt := gt_of (List.mem_of_getElem? (i := 3) (by decide +kernel)) (by decide +kernel)
theorem mw_4 : Cond.initialized "GrindingCircuit$Simulation" ∈ gt := gt_of (List.mem_of_getElem? (i := 4) (by decide +kernel)) (by decide +kernel)
theorem mw_5 : Cond.initialized "GrindingCircuit$Lot" ∈ gt := gt_of (List.mem_of_getElem? (i := 5) (by decide +kernel)) (by decide +kernel)
theorem mw_6 : Cond.initialized "GrindingCircuit$SteadyState" ∈ gt := gt_of (List.mem_of_getElem? (i := 6) (by decide +kernel)) (by decide +kernel)
theorem mw_7 : Cond.initialized "GrindingCircuitModel" ∈ gt := gt_of (List.mem_of_getElem? (i := 7) (by decide +kernel)) (by decide +kernel)
theorem mw_8 : Cond.initialized "java/lang/Math" ∈ gt := gt_of (List.mem_of_getElem? (i := 8) (by decide +kernel)) (by decide +kernel)
theorem mw_9 : Cond.initialized "java/lang/System" ∈ gt := gt_of (List.mem_of_getElem? (i := 9) (by decide +kernel)) (by decide +kernel)
theorem mw_10 : Cond.classLink "GrindingCircuitLaw" (7 : Nat) "GrindingCircuit" ∈ gt := gt_of (List.mem_of_getElem? (i := 10) (by decide +kernel)) (by decide +kernel)
theorem mw_11 : Cond.instantiable "GrindingCircuit" (4 : Nat) ∈ gt := gt_of (List.mem_of_getElem? (i := 11) (by decide +kernel)) (by decide +kernel)
theorem mw_12 : Cond.methodLink "GrindingCircuitLaw" (9 : Nat) (⟨"GrindingCircuit", "<init>", "()V"⟩ : MethodName) ∈ gt := gt_of (List.mem_of_getElem? (i := 12) (by decide +kernel)) (by decide +kernel)
theorem mw_13 : Cond.instanceMethod (⟨"GrindingCircuit", "<init>", "()V"⟩ : MethodName) ∈ gt := gt_of (List.mem_of_getElem? (i := 13) (by decide +kernel)) (by decide +kernel)
theorem mw_14 : Cond.code (⟨"GrindingCircuit", "<init>", "()V"⟩ : MethodName) prog_1_method_1_code (1 : Nat) (Option.none : Option FieldType) ∈ gt := gt_of (List.mem_of_getElem? (i := 14) (by decide +kernel)) (by decide +kernel)
theorem mw_15 : Cond.methodLink "GrindingCircuit" (1 : Nat) (⟨"java/lang/Object", "<init>", "()V"⟩ : MethodName) ∈ gt := gt_of (List.mem_of_getElem? (i := 15) (by decide +kernel)) (by decide +kernel)
theorem mw_16 : Cond.instanceMethod (⟨"java/lang/Object", "<init>", "()V"⟩ : MethodName) ∈ gt := gt_of (List.mem_of_getElem? (i := 16) (by decide +kernel)) (by decide +kernel)
theorem mw_17 : Cond.code (⟨"java/lang/Object", "<init>", "()V"⟩ : MethodName) object_method_1_code (1 : Nat) (Option.none : Option FieldType) ∈ gt := gt_of (List.mem_of_getElem? (i := 17) (by decide +kernel)) (by decide +kernel)
theorem mw_18 : Cond.classLink "GrindingCircuit" (7 : Nat) "GrindingCircuit$Plant" ∈ gt := gt_of (List.mem_of_getElem? (i := 18) (by decide +kernel)) (by decide +kernel)
theorem mw_19 : Cond.instantiable "GrindingCircuit$Plant" (2 : Nat) ∈ gt := gt_of (List.mem_of_getElem? (i := 19) (by decide +kernel)) (by decide +kernel)
theorem mw_21 : Cond.instanceMethod (⟨"GrindingCircuit$Plant", "<init>", "()V"⟩ : MethodName) ∈ gt := gt_of (List.mem_of_getElem? (i := 21) (by decide +kernel)) (by decide +kernel)
theorem mw_22 : Cond.code (⟨"GrindingCircuit$Plant", "<init>", "()V"⟩ : MethodName) prog_3_method_1_code (1 : Nat) (Option.none : Option FieldType) ∈ gt := gt_of (List.mem_of_getElem? (i := 22) (by decide +kernel)) (by decide +kernel)
theorem mw_23 : Cond.methodLink "GrindingCircuit$Plant" (1 : Nat) (⟨"java/lang/Object", "<init>", "()V"⟩ : MethodName) ∈ gt := gt_of (List.mem_of_getElem? (i := 23) (by decide +kernel)) (by decide +kernel)
theorem mw_24 : Cond.classLink "GrindingCircuit$Plant" (7 : Nat) "GrindingCircuit$Settings" ∈ gt := gt_of (List.mem_of_getElem? (i := 24) (by decide +kernel)) (by decide +kernel)
theorem mw_25 : Cond.instantiable "GrindingCircuit$Settings" (6 : Nat) ∈ gt := gt_of (List.mem_of_getElem? (i := 25) (by decide +kernel)) (by decide +kernel)
theorem mw_26 : Cond.methodLink "GrindingCircuit$Plant" (9 : Nat) (⟨"GrindingCircuit$Settings", "<init>", "()V"⟩ : MethodName) ∈ gt := gt_of (List.mem_of_getElem? (i := 26) (by decide +kernel)) (by decide +kernel)
theorem mw_27 : Cond.instanceMethod (⟨"GrindingCircuit$Settings", "<init>", "()V"⟩ : MethodName) ∈ gt := gt_of (List.mem_of_getElem? (i := 27) (by decide +kernel)) (by decide +kernel)
theorem mw_28 : Cond.code (⟨"GrindingCircuit$Settings", "<init>", "()V"⟩ : MethodName) prog_4_method_1_code (2 : Nat) (Option.none : Option FieldType) ∈ gt := gt_of (List.mem_of_getElem? (i := 28) (by decide +kernel)) (by decide +kernel)
theorem mw_29 : Cond.methodLink "GrindingCircuit$Settings" (3 : Nat) (⟨"java/lang/Object", "<init>", "()V"⟩ : MethodName) ∈ gt := gt_of (List.mem_of_getElem? (i := 29) (by decide +kernel)) (by decide +kernel)
theorem mw_30 : Cond.classLink "GrindingCircuit$Settings" (9 : Nat) "[[I" ∈ gt := gt_of (List.mem_of_getElem? (i := 30) (by decide +kernel)) (by decide +kernel)
theorem mw_32 : Cond.fieldLink "GrindingCircuit$Settings" (11 : Nat) "GrindingCircuit$Settings" "shares" "[[I" ∈ gt := gt_of (List.mem_of_getElem? (i := 32) (by decide +kernel)) (by decide +kernel)
theorem mw_33 : Cond.fieldLink "GrindingCircuit" (49 : Nat) "GrindingCircuit$Settings" "shares" "[[I" ∈ gt := gt_of (List.mem_of_getElem? (i := 33) (by decide +kernel)) (by decide +kernel)
theorem mw_34 : Cond.fieldLink "GrindingCircuit$SteadyState" (44 : Nat) "GrindingCircuit$Settings" "shares" "[[I" ∈ gt := gt_of (List.mem_of_getElem? (i := 34) (by decide +kernel)) (by decide +kernel)
theorem mw_35 : Cond.fieldLink "GrindingCircuit$Simulation" (103 : Nat) "GrindingCircuit$Settings" "shares" "[[I" ∈ gt := gt_of (List.mem_of_getElem? (i := 35) (by decide +kernel)) (by decide +kernel)
theorem mw_36 : Cond.fieldLink "GrindingCircuit$Settings" (16 : Nat) "GrindingCircuit$Settings" "returns" "[I" ∈ gt := gt_of (List.mem_of_getElem? (i := 36) (by decide +kernel)) (by decide +kernel)
theorem mw_37 : Cond.fieldLink "GrindingCircuit" (53 : Nat) "GrindingCircuit$Settings" "returns" "[I" ∈ gt := gt_of (List.mem_of_getElem? (i := 37) (by decide +kernel)) (by decide +kernel)
theorem mw_38 : Cond.fieldLink "GrindingCircuit$Simulation" (111 : Nat) "GrindingCircuit$Settings" "returns" "[I" ∈ gt := gt_of (List.mem_of_getElem? (i := 38) (by decide +kernel)) (by decide +kernel)
theorem mw_39 : Cond.fieldLink "GrindingCircuit$Settings" (20 : Nat) "GrindingCircuit$Settings" "works" "[I" ∈ gt := gt_of (List.mem_of_getElem? (i := 39) (by decide +kernel)) (by decide +kernel)
theorem mw_40 : Cond.fieldLink "GrindingCircuit" (61 : Nat) "GrindingCircuit$Settings" "works" "[I" ∈ gt := gt_of (List.mem_of_getElem? (i := 40) (by decide +kernel)) (by decide +kernel)
theorem mw_41 : Cond.fieldLink "GrindingCircuit$Simulation" (94 : Nat) "GrindingCircuit$Settings" "works" "[I" ∈ gt := gt_of (List.mem_of_getElem? (i := 41) (by decide +kernel)) (by decide +kernel)
theorem mw_42 : Cond.fieldLink "GrindingCircuit$Settings" (23 : Nat) "GrindingCircuit$Settings" "feeds" "[I" ∈ gt := gt_of (List.mem_of_getElem? (i := 42) (by decide +kernel)) (by decide +kernel)
theorem mw_43 : Cond.fieldLink "GrindingCircuit$SteadyState" (39 : Nat) "GrindingCircuit$Settings" "feeds" "[I" ∈ gt := gt_of (List.mem_of_getElem? (i := 43) (by decide +kernel)) (by decide +kernel)
theorem mw_44 : Cond.fieldLink "GrindingCircuit" (64 : Nat) "GrindingCircuit$Settings" "feeds" "[I" ∈ gt := gt_of (List.mem_of_getElem? (i := 44) (by decide +kernel)) (by decide +kernel)
theorem mw_45 : Cond.fieldLink "GrindingCircuit$Settings" (26 : Nat) "GrindingCircuit$Settings" "rate" "I" ∈ gt := gt_of (List.mem_of_getElem? (i := 45) (by decide +kernel)) (by decide +kernel)
theorem mw_46 : Cond.fieldLink "GrindingCircuit$Simulation" (131 : Nat) "GrindingCircuit$Settings" "rate" "I" ∈ gt := gt_of (List.mem_of_getElem? (i := 46) (by decide +kernel)) (by decide +kernel)
theorem mw_47 : Cond.fieldLink "GrindingCircuit" (167 : Nat) "GrindingCircuit$Settings" "rate" "I" ∈ gt := gt_of (List.mem_of_getElem? (i := 47) (by decide +kernel)) (by decide +kernel)
theorem mw_48 : Cond.fieldLink "GrindingCircuit$Settings" (30 : Nat) "GrindingCircuit$Settings" "rule" "I" ∈ gt := gt_of (List.mem_of_getElem? (i := 48) (by decide +kernel)) (by decide +kernel)
theorem mw_49 : Cond.fieldLink "GrindingCircuit$Simulation" (124 : Nat) "GrindingCircuit$Settings" "rule" "I" ∈ gt := gt_of (List.mem_of_getElem? (i := 49) (by decide +kernel)) (by decide +kernel)
theorem mw_50 : Cond.fieldLink "GrindingCircuit" (170 : Nat) "GrindingCircuit$Settings" "rule" "I" ∈ gt := gt_of (List.mem_of_getElem? (i := 50) (by decide +kernel)) (by decide +kernel)
theorem mw_51 : Cond.laysFinal "GrindingCircuit$Settings" "GrindingCircuit$Settings" "shares" "[[I" ∈ gt := gt_of (List.mem_of_getElem? (i := 51) (by decide +kernel)) (by decide +kernel)
theorem mw_53 : Cond.laysFinal "GrindingCircuit$Settings" "GrindingCircuit$Settings" "returns" "[I" ∈ gt := gt_of (List.mem_of_getElem? (i := 53) (by decide +kernel)) (by decide +kernel)
theorem mw_55 : Cond.laysFinal "GrindingCircuit$Settings" "GrindingCircuit$Settings" "works" "[I" ∈ gt := gt_of (List.mem_of_getElem? (i := 55) (by decide +kernel)) (by decide +kernel)
theorem mw_57 : Cond.laysFinal "GrindingCircuit$Settings" "GrindingCircuit$Settings" "feeds" "[I" ∈ gt := gt_of (List.mem_of_getElem? (i := 57) (by decide +kernel)) (by decide +kernel)
theorem mw_59 : Cond.lays "GrindingCircuit$Settings" "GrindingCircuit$Settings" "rate" "I" ∈ gt := gt_of (List.mem_of_getElem? (i := 59) (by decide +kernel)) (by decide +kernel)
theorem mw_61 : Cond.lays "GrindingCircuit$Settings" "GrindingCircuit$Settings" "rule" "I" ∈ gt := gt_of (List.mem_of_getElem? (i := 61) (by decide +kernel)) (by decide +kernel)
theorem mw_64 : Cond.arrayClass FieldType.int ∈ gt := gt_of (List.mem_of_getElem? (i := 64) (by decide +kernel)) (by decide +kernel)
theorem mw_65 : Cond.classLink "GrindingCircuit$Plant" (16 : Nat) "GrindingCircuit$Simulation" ∈ gt := gt_of (List.mem_of_getElem? (i := 65) (by decide +kernel)) (by decide +kernel)
theorem mw_66 : Cond.instantiable "GrindingCircuit$Simulation" (9 : Nat) ∈ gt := gt_of (List.mem_of_getElem? (i := 66) (by decide +kernel)) (by decide +kernel)
theorem mw_67 : Cond.methodLink "GrindingCircuit$Plant" (18 : Nat) (⟨"GrindingCircuit$Simulation", "<init>", "()V"⟩ : MethodName) ∈ gt := gt_of (List.mem_of_getElem? (i := 67) (by decide +kernel)) (by decide +kernel)
theorem mw_68 : Cond.instanceMethod (⟨"GrindingCircuit$Simulation", "<init>", "()V"⟩ : MethodName) ∈ gt := gt_of (List.mem_of_getElem? (i := 68) (by decide +kernel)) (by decide +kernel)
theorem mw_69 : Cond.code (⟨"GrindingCircuit$Simulation", "<init>", "()V"⟩ : MethodName) prog_5_method_1_code (2 : Nat) (Option.none : Option FieldType) ∈ gt := gt_of (List.mem_of_getElem? (i := 69) (by decide +kernel)) (by decide +kernel)
theorem mw_70 : Cond.methodLink "GrindingCircuit$Simulation" (3 : Nat) (⟨"java/lang/Object", "<init>", "()V"⟩ : MethodName) ∈ gt := gt_of (List.mem_of_getElem? (i := 70) (by decide +kernel)) (by decide +kernel)
theorem mw_71 : Cond.classLink "GrindingCircuit$Simulation" (9 : Nat) "GrindingCircuit$Lot" ∈ gt := gt_of (List.mem_of_getElem? (i := 71) (by decide +kernel)) (by decide +kernel)
theorem mw_73 : Cond.instantiable "GrindingCircuit$Lot" (5 : Nat) ∈ gt := gt_of (List.mem_of_getElem? (i := 73) (by decide +kernel)) (by decide +kernel)
theorem mw_75 : Cond.instanceMethod (⟨"GrindingCircuit$Lot", "<init>", "()V"⟩ : MethodName) ∈ gt := gt_of (List.mem_of_getElem? (i := 75) (by decide +kernel)) (by decide +kernel)
theorem mw_76 : Cond.code (⟨"GrindingCircuit$Lot", "<init>", "()V"⟩ : MethodName) prog_2_method_1_code (1 : Nat) (Option.none : Option FieldType) ∈ gt := gt_of (List.mem_of_getElem? (i := 76) (by decide +kernel)) (by decide +kernel)
theorem mw_77 : Cond.methodLink "GrindingCircuit$Lot" (3 : Nat) (⟨"java/lang/Object", "<init>", "()V"⟩ : MethodName) ∈ gt := gt_of (List.mem_of_getElem? (i := 77) (by decide +kernel)) (by decide +kernel)
theorem mw_78 : Cond.fieldLink "GrindingCircuit$Lot" (9 : Nat) "GrindingCircuit$Lot" "masses" "[I" ∈ gt := gt_of (List.mem_of_getElem? (i := 78) (by decide +kernel)) (by decide +kernel)
theorem mw_79 : Cond.fieldLink "GrindingCircuit$Simulation" (54 : Nat) "GrindingCircuit$Lot" "masses" "[I" ∈ gt := gt_of (List.mem_of_getElem? (i := 79) (by decide +kernel)) (by decide +kernel)
theorem mw_80 : Cond.fieldLink "GrindingCircuit" (198 : Nat) "GrindingCircuit$Lot" "masses" "[I" ∈ gt := gt_of (List.mem_of_getElem? (i := 80) (by decide +kernel)) (by decide +kernel)
theorem mw_81 : Cond.fieldLink "GrindingCircuit$Lot" (21 : Nat) "GrindingCircuit$Lot" "place" "I" ∈ gt := gt_of (List.mem_of_getElem? (i := 81) (by decide +kernel)) (by decide +kernel)
theorem mw_82 : Cond.fieldLink "GrindingCircuit$Simulation" (60 : Nat) "GrindingCircuit$Lot" "place" "I" ∈ gt := gt_of (List.mem_of_getElem? (i := 82) (by decide +kernel)) (by decide +kernel)
theorem mw_83 : Cond.fieldLink "GrindingCircuit" (193 : Nat) "GrindingCircuit$Lot" "place" "I" ∈ gt := gt_of (List.mem_of_getElem? (i := 83) (by decide +kernel)) (by decide +kernel)
theorem mw_84 : Cond.fieldLink "GrindingCircuit$Lot" (25 : Nat) "GrindingCircuit$Lot" "comesAt" "I" ∈ gt := gt_of (List.mem_of_getElem? (i := 84) (by decide +kernel)) (by decide +kernel)
theorem mw_85 : Cond.fieldLink "GrindingCircuit$Simulation" (63 : Nat) "GrindingCircuit$Lot" "comesAt" "I" ∈ gt := gt_of (List.mem_of_getElem? (i := 85) (by decide +kernel)) (by decide +kernel)
theorem mw_86 : Cond.fieldLink "GrindingCircuit$Lot" (28 : Nat) "GrindingCircuit$Lot" "arrival" "I" ∈ gt := gt_of (List.mem_of_getElem? (i := 86) (by decide +kernel)) (by decide +kernel)
theorem mw_87 : Cond.fieldLink "GrindingCircuit$Simulation" (66 : Nat) "GrindingCircuit$Lot" "arrival" "I" ∈ gt := gt_of (List.mem_of_getElem? (i := 87) (by decide +kernel)) (by decide +kernel)
theorem mw_88 : Cond.fieldLink "GrindingCircuit$Lot" (31 : Nat) "GrindingCircuit$Lot" "timesGround" "I" ∈ gt := gt_of (List.mem_of_getElem? (i := 88) (by decide +kernel)) (by decide +kernel)
theorem mw_89 : Cond.fieldLink "GrindingCircuit$Simulation" (57 : Nat) "GrindingCircuit$Lot" "timesGround" "I" ∈ gt := gt_of (List.mem_of_getElem? (i := 89) (by decide +kernel)) (by decide +kernel)
theorem mw_90 : Cond.fieldLink "GrindingCircuit" (205 : Nat) "GrindingCircuit$Lot" "timesGround" "I" ∈ gt := gt_of (List.mem_of_getElem? (i := 90) (by decide +kernel)) (by decide +kernel)
theorem mw_91 : Cond.laysFinal "GrindingCircuit$Lot" "GrindingCircuit$Lot" "masses" "[I" ∈ gt := gt_of (List.mem_of_getElem? (i := 91) (by decide +kernel)) (by decide +kernel)
theorem mw_93 : Cond.lays "GrindingCircuit$Lot" "GrindingCircuit$Lot" "place" "I" ∈ gt := gt_of (List.mem_of_getElem? (i := 93) (by decide +kernel)) (by decide +kernel)
theorem mw_95 : Cond.lays "GrindingCircuit$Lot" "GrindingCircuit$Lot" "comesAt" "I" ∈ gt := gt_of (List.mem_of_getElem? (i := 95) (by decide +kernel)) (by decide +kernel)
theorem mw_97 : Cond.lays "GrindingCircuit$Lot" "GrindingCircuit$Lot" "arrival" "I" ∈ gt := gt_of (List.mem_of_getElem? (i := 97) (by decide +kernel)) (by decide +kernel)
theorem mw_99 : Cond.lays "GrindingCircuit$Lot" "GrindingCircuit$Lot" "timesGround" "I" ∈ gt := gt_of (List.mem_of_getElem? (i := 99) (by decide +kernel)) (by decide +kernel)
theorem mw_102 : Cond.fieldLink "GrindingCircuit$Simulation" (11 : Nat) "GrindingCircuit$Simulation" "lots" "[LGrindingCircuit$Lot;" ∈ gt := gt_of (List.mem_of_getElem? (i := 102) (by decide +kernel)) (by decide +kernel)
theorem mw_103 : Cond.fieldLink "GrindingCircuit" (143 : Nat) "GrindingCircuit$Simulation" "lots" "[LGrindingCircuit$Lot;" ∈ gt := gt_of (List.mem_of_getElem? (i := 103) (by decide +kernel)) (by decide +kernel)
theorem mw_104 : Cond.fieldLink "GrindingCircuit$Simulation" (17 : Nat) "GrindingCircuit$Simulation" "productMasses" "[I" ∈ gt := gt_of (List.mem_of_getElem? (i := 104) (by decide +kernel)) (by decide +kernel)
theorem mw_105 : Cond.fieldLink "GrindingCircuit" (208 : Nat) "GrindingCircuit$Simulation" "productMasses" "[I" ∈ gt := gt_of (List.mem_of_getElem? (i := 105) (by decide +kernel)) (by decide +kernel)
theorem mw_106 : Cond.fieldLink "GrindingCircuit$Simulation" (26 : Nat) "GrindingCircuit$Simulation" "lotCount" "I" ∈ gt := gt_of (List.mem_of_getElem? (i := 106) (by decide +kernel)) (by decide +kernel)
theorem mw_107 : Cond.fieldLink "GrindingCircuit" (211 : Nat) "GrindingCircuit$Simulation" "lotCount" "I" ∈ gt := gt_of (List.mem_of_getElem? (i := 107) (by decide +kernel)) (by decide +kernel)
theorem mw_108 : Cond.fieldLink "GrindingCircuit$Simulation" (39 : Nat) "GrindingCircuit$Simulation" "time" "I" ∈ gt := gt_of (List.mem_of_getElem? (i := 108) (by decide +kernel)) (by decide +kernel)
theorem mw_109 : Cond.fieldLink "GrindingCircuit" (163 : Nat) "GrindingCircuit$Simulation" "time" "I" ∈ gt := gt_of (List.mem_of_getElem? (i := 109) (by decide +kernel)) (by decide +kernel)
theorem mw_110 : Cond.fieldLink "GrindingCircuit$Simulation" (42 : Nat) "GrindingCircuit$Simulation" "arrivals" "I" ∈ gt := gt_of (List.mem_of_getElem? (i := 110) (by decide +kernel)) (by decide +kernel)
theorem mw_111 : Cond.fieldLink "GrindingCircuit$Simulation" (21 : Nat) "GrindingCircuit$Simulation" "ground" "I" ∈ gt := gt_of (List.mem_of_getElem? (i := 111) (by decide +kernel)) (by decide +kernel)
theorem mw_112 : Cond.fieldLink "GrindingCircuit" (184 : Nat) "GrindingCircuit$Simulation" "ground" "I" ∈ gt := gt_of (List.mem_of_getElem? (i := 112) (by decide +kernel)) (by decide +kernel)
theorem mw_113 : Cond.fieldLink "GrindingCircuit$Simulation" (45 : Nat) "GrindingCircuit$Simulation" "finishTime" "I" ∈ gt := gt_of (List.mem_of_getElem? (i := 113) (by decide +kernel)) (by decide +kernel)
theorem mw_114 : Cond.fieldLink "GrindingCircuit" (187 : Nat) "GrindingCircuit$Simulation" "finishTime" "I" ∈ gt := gt_of (List.mem_of_getElem? (i := 114) (by decide +kernel)) (by decide +kernel)
theorem mw_115 : Cond.fieldLink "GrindingCircuit$Simulation" (48 : Nat) "GrindingCircuit$Simulation" "energy" "I" ∈ gt := gt_of (List.mem_of_getElem? (i := 115) (by decide +kernel)) (by decide +kernel)
theorem mw_116 : Cond.fieldLink "GrindingCircuit" (214 : Nat) "GrindingCircuit$Simulation" "energy" "I" ∈ gt := gt_of (List.mem_of_getElem? (i := 116) (by decide +kernel)) (by decide +kernel)
theorem mw_117 : Cond.fieldLink "GrindingCircuit$Simulation" (51 : Nat) "GrindingCircuit$Simulation" "returnedMass" "I" ∈ gt := gt_of (List.mem_of_getElem? (i := 117) (by decide +kernel)) (by decide +kernel)
theorem mw_118 : Cond.fieldLink "GrindingCircuit" (217 : Nat) "GrindingCircuit$Simulation" "returnedMass" "I" ∈ gt := gt_of (List.mem_of_getElem? (i := 118) (by decide +kernel)) (by decide +kernel)
theorem mw_119 : Cond.laysFinal "GrindingCircuit$Simulation" "GrindingCircuit$Simulation" "lots" "[LGrindingCircuit$Lot;" ∈ gt := gt_of (List.mem_of_getElem? (i := 119) (by decide +kernel)) (by decide +kernel)
theorem mw_121 : Cond.laysFinal "GrindingCircuit$Simulation" "GrindingCircuit$Simulation" "productMasses" "[I" ∈ gt := gt_of (List.mem_of_getElem? (i := 121) (by decide +kernel)) (by decide +kernel)
theorem mw_123 : Cond.lays "GrindingCircuit$Simulation" "GrindingCircuit$Simulation" "lotCount" "I" ∈ gt := gt_of (List.mem_of_getElem? (i := 123) (by decide +kernel)) (by decide +kernel)
theorem mw_125 : Cond.lays "GrindingCircuit$Simulation" "GrindingCircuit$Simulation" "time" "I" ∈ gt := gt_of (List.mem_of_getElem? (i := 125) (by decide +kernel)) (by decide +kernel)
theorem mw_127 : Cond.lays "GrindingCircuit$Simulation" "GrindingCircuit$Simulation" "arrivals" "I" ∈ gt := gt_of (List.mem_of_getElem? (i := 127) (by decide +kernel)) (by decide +kernel)
theorem mw_129 : Cond.lays "GrindingCircuit$Simulation" "GrindingCircuit$Simulation" "ground" "I" ∈ gt := gt_of (List.mem_of_getElem? (i := 129) (by decide +kernel)) (by decide +kernel)
theorem mw_131 : Cond.lays "GrindingCircuit$Simulation" "GrindingCircuit$Simulation" "finishTime" "I" ∈ gt := gt_of (List.mem_of_getElem? (i := 131) (by decide +kernel)) (by decide +kernel)
theorem mw_133 : Cond.lays "GrindingCircuit$Simulation" "GrindingCircuit$Simulation" "energy" "I" ∈ gt := gt_of (List.mem_of_getElem? (i := 133) (by decide +kernel)) (by decide +kernel)
theorem mw_135 : Cond.lays "GrindingCircuit$Simulation" "GrindingCircuit$Simulation" "returnedMass" "I" ∈ gt := gt_of (List.mem_of_getElem? (i := 135) (by decide +kernel)) (by decide +kernel)
theorem mw_138 : Cond.fieldLink "GrindingCircuit$Plant" (10 : Nat) "GrindingCircuit$Plant" "settings" "LGrindingCircuit$Settings;" ∈ gt := gt_of (List.mem_of_getElem? (i := 138) (by decide +kernel)) (by decide +kernel)
theorem mw_139 : Cond.fieldLink "GrindingCircuit" (39 : Nat) "GrindingCircuit$Plant" "settings" "LGrindingCircuit$Settings;" ∈ gt := gt_of (List.mem_of_getElem? (i := 139) (by decide +kernel)) (by decide +kernel)
theorem mw_140 : Cond.fieldLink "GrindingCircuit$Plant" (19 : Nat) "GrindingCircuit$Plant" "simulation" "LGrindingCircuit$Simulation;" ∈ gt := gt_of (List.mem_of_getElem? (i := 140) (by decide +kernel)) (by decide +kernel)
theorem mw_141 : Cond.fieldLink "GrindingCircuit" (129 : Nat) "GrindingCircuit$Plant" "simulation" "LGrindingCircuit$Simulation;" ∈ gt := gt_of (List.mem_of_getElem? (i := 141) (by decide +kernel)) (by decide +kernel)
theorem mw_142 : Cond.laysFinal "GrindingCircuit$Plant" "GrindingCircuit$Plant" "settings" "LGrindingCircuit$Settings;" ∈ gt := gt_of (List.mem_of_getElem? (i := 142) (by decide +kernel)) (by decide +kernel)
theorem mw_144 : Cond.laysFinal "GrindingCircuit$Plant" "GrindingCircuit$Plant" "simulation" "LGrindingCircuit$Simulation;" ∈ gt := gt_of (List.mem_of_getElem? (i := 144) (by decide +kernel)) (by decide +kernel)
theorem mw_148 : Cond.classLink "GrindingCircuit" (24 : Nat) "GrindingCircuit$SteadyState" ∈ gt := gt_of (List.mem_of_getElem? (i := 148) (by decide +kernel)) (by decide +kernel)
theorem mw_149 : Cond.instantiable "GrindingCircuit$SteadyState" (4 : Nat) ∈ gt := gt_of (List.mem_of_getElem? (i := 149) (by decide +kernel)) (by decide +kernel)
theorem mw_151 : Cond.instanceMethod (⟨"GrindingCircuit$SteadyState", "<init>", "()V"⟩ : MethodName) ∈ gt := gt_of (List.mem_of_getElem? (i := 151) (by decide +kernel)) (by decide +kernel)
theorem mw_152 : Cond.code (⟨"GrindingCircuit$SteadyState", "<init>", "()V"⟩ : MethodName) prog_6_method_1_code (1 : Nat) (Option.none : Option FieldType) ∈ gt := gt_of (List.mem_of_getElem? (i := 152) (by decide +kernel)) (by decide +kernel)
theorem mw_153 : Cond.methodLink "GrindingCircuit$SteadyState" (3 : Nat) (⟨"java/lang/Object", "<init>", "()V"⟩ : MethodName) ∈ gt := gt_of (List.mem_of_getElem? (i := 153) (by decide +kernel)) (by decide +kernel)
theorem mw_154 : Cond.fieldLink "GrindingCircuit$SteadyState" (9 : Nat) "GrindingCircuit$SteadyState" "loads" "[J" ∈ gt := gt_of (List.mem_of_getElem? (i := 154) (by decide +kernel)) (by decide +kernel)
theorem mw_155 : Cond.fieldLink "GrindingCircuit" (84 : Nat) "GrindingCircuit$SteadyState" "loads" "[J" ∈ gt := gt_of (List.mem_of_getElem? (i := 155) (by decide +kernel)) (by decide +kernel)
theorem mw_156 : Cond.fieldLink "GrindingCircuit$SteadyState" (15 : Nat) "GrindingCircuit$SteadyState" "cutReturns" "[I" ∈ gt := gt_of (List.mem_of_getElem? (i := 156) (by decide +kernel)) (by decide +kernel)
theorem mw_157 : Cond.fieldLink "GrindingCircuit$SteadyState" (19 : Nat) "GrindingCircuit$SteadyState" "scale" "J" ∈ gt := gt_of (List.mem_of_getElem? (i := 157) (by decide +kernel)) (by decide +kernel)
theorem mw_158 : Cond.fieldLink "GrindingCircuit" (88 : Nat) "GrindingCircuit$SteadyState" "scale" "J" ∈ gt := gt_of (List.mem_of_getElem? (i := 158) (by decide +kernel)) (by decide +kernel)
theorem mw_159 : Cond.fieldLink "GrindingCircuit$SteadyState" (23 : Nat) "GrindingCircuit$SteadyState" "exists" "Z" ∈ gt := gt_of (List.mem_of_getElem? (i := 159) (by decide +kernel)) (by decide +kernel)
theorem mw_160 : Cond.fieldLink "GrindingCircuit" (78 : Nat) "GrindingCircuit$SteadyState" "exists" "Z" ∈ gt := gt_of (List.mem_of_getElem? (i := 160) (by decide +kernel)) (by decide +kernel)
theorem mw_161 : Cond.laysFinal "GrindingCircuit$SteadyState" "GrindingCircuit$SteadyState" "loads" "[J" ∈ gt := gt_of (List.mem_of_getElem? (i := 161) (by decide +kernel)) (by decide +kernel)
theorem mw_163 : Cond.laysFinal "GrindingCircuit$SteadyState" "GrindingCircuit$SteadyState" "cutReturns" "[I" ∈ gt := gt_of (List.mem_of_getElem? (i := 163) (by decide +kernel)) (by decide +kernel)
theorem mw_165 : Cond.lays "GrindingCircuit$SteadyState" "GrindingCircuit$SteadyState" "scale" "J" ∈ gt := gt_of (List.mem_of_getElem? (i := 165) (by decide +kernel)) (by decide +kernel)
theorem mw_167 : Cond.lays "GrindingCircuit$SteadyState" "GrindingCircuit$SteadyState" "exists" "Z" ∈ gt := gt_of (List.mem_of_getElem? (i := 167) (by decide +kernel)) (by decide +kernel)
theorem mw_170 : Cond.arrayClass FieldType.boolean ∈ gt := gt_of (List.mem_of_getElem? (i := 170) (by decide +kernel)) (by decide +kernel)
theorem mw_171 : Cond.arrayClass FieldType.long ∈ gt := gt_of (List.mem_of_getElem? (i := 171) (by decide +kernel)) (by decide +kernel)
theorem mw_172 : Cond.fieldLink "GrindingCircuit" (10 : Nat) "GrindingCircuit" "plant" "LGrindingCircuit$Plant;" ∈ gt := gt_of (List.mem_of_getElem? (i := 172) (by decide +kernel)) (by decide +kernel)
theorem mw_173 : Cond.fieldLink "GrindingCircuit" (16 : Nat) "GrindingCircuit" "slots" "[LGrindingCircuit$Plant;" ∈ gt := gt_of (List.mem_of_getElem? (i := 173) (by decide +kernel)) (by decide +kernel)
theorem mw_174 : Cond.fieldLink "GrindingCircuit" (20 : Nat) "GrindingCircuit" "slotFilled" "[Z" ∈ gt := gt_of (List.mem_of_getElem? (i := 174) (by decide +kernel)) (by decide +kernel)
theorem mw_175 : Cond.fieldLink "GrindingCircuit" (27 : Nat) "GrindingCircuit" "steady" "LGrindingCircuit$SteadyState;" ∈ gt := gt_of (List.mem_of_getElem? (i := 175) (by decide +kernel)) (by decide +kernel)
theorem mw_176 : Cond.laysFinal "GrindingCircuit" "GrindingCircuit" "plant" "LGrindingCircuit$Plant;" ∈ gt := gt_of (List.mem_of_getElem? (i := 176) (by decide +kernel)) (by decide +kernel)
theorem mw_178 : Cond.laysFinal "GrindingCircuit" "GrindingCircuit" "slots" "[LGrindingCircuit$Plant;" ∈ gt := gt_of (List.mem_of_getElem? (i := 178) (by decide +kernel)) (by decide +kernel)
theorem mw_180 : Cond.laysFinal "GrindingCircuit" "GrindingCircuit" "slotFilled" "[Z" ∈ gt := gt_of (List.mem_of_getElem? (i := 180) (by decide +kernel)) (by decide +kernel)
theorem mw_182 : Cond.laysFinal "GrindingCircuit" "GrindingCircuit" "steady" "LGrindingCircuit$SteadyState;" ∈ gt := gt_of (List.mem_of_getElem? (i := 182) (by decide +kernel)) (by decide +kernel)
theorem mw_185 : Cond.methodLink "GrindingCircuitLaw" (13 : Nat) (⟨"GrindingCircuit", "setBreakage", "(IIII)I"⟩ : MethodName) ∈ gt := gt_of (List.mem_of_getElem? (i := 185) (by decide +kernel)) (by decide +kernel)
theorem mw_186 : Cond.instanceMethod (⟨"GrindingCircuit", "setBreakage", "(IIII)I"⟩ : MethodName) ∈ gt := gt_of (List.mem_of_getElem? (i := 186) (by decide +kernel)) (by decide +kernel)
theorem mw_187 : Cond.selects "GrindingCircuit" (⟨"GrindingCircuit", "setBreakage", "(IIII)I"⟩ : MethodName) (⟨"GrindingCircuit", "setBreakage", "(IIII)I"⟩ : MethodName) ∈ gt := gt_of (List.mem_of_getElem? (i := 187) (by decide +kernel)) (by decide +kernel)
theorem mw_188 : Cond.code (⟨"GrindingCircuit", "setBreakage", "(IIII)I"⟩ : MethodName) prog_1_method_2_code (7 : Nat) (Option.some FieldType.int) ∈ gt := gt_of (List.mem_of_getElem? (i := 188) (by decide +kernel)) (by decide +kernel)
theorem mw_189 : Cond.methodLink "GrindingCircuit" (31 : Nat) (⟨"GrindingCircuit", "isSize", "(I)Z"⟩ : MethodName) ∈ gt := gt_of (List.mem_of_getElem? (i := 189) (by decide +kernel)) (by decide +kernel)
theorem mw_190 : Cond.static (⟨"GrindingCircuit", "isSize", "(I)Z"⟩ : MethodName) ∈ gt := gt_of (List.mem_of_getElem? (i := 190) (by decide +kernel)) (by decide +kernel)
theorem mw_191 : Cond.code (⟨"GrindingCircuit", "isSize", "(I)Z"⟩ : MethodName) prog_1_method_28_code (1 : Nat) (Option.some FieldType.boolean) ∈ gt := gt_of (List.mem_of_getElem? (i := 191) (by decide +kernel)) (by decide +kernel)
theorem mw_192 : Cond.methodLink "GrindingCircuit" (116 : Nat) (⟨"GrindingCircuit", "isWithin", "(III)Z"⟩ : MethodName) ∈ gt := gt_of (List.mem_of_getElem? (i := 192) (by decide +kernel)) (by decide +kernel)
theorem mw_193 : Cond.static (⟨"GrindingCircuit", "isWithin", "(III)Z"⟩ : MethodName) ∈ gt := gt_of (List.mem_of_getElem? (i := 193) (by decide +kernel)) (by decide +kernel)
theorem mw_194 : Cond.code (⟨"GrindingCircuit", "isWithin", "(III)Z"⟩ : MethodName) prog_1_method_27_code (3 : Nat) (Option.some FieldType.boolean) ∈ gt := gt_of (List.mem_of_getElem? (i := 194) (by decide +kernel)) (by decide +kernel)
theorem mw_195 : Cond.methodLink "GrindingCircuit" (35 : Nat) (⟨"GrindingCircuit", "isShareTo", "(II)Z"⟩ : MethodName) ∈ gt := gt_of (List.mem_of_getElem? (i := 195) (by decide +kernel)) (by decide +kernel)
theorem mw_196 : Cond.static (⟨"GrindingCircuit", "isShareTo", "(II)Z"⟩ : MethodName) ∈ gt := gt_of (List.mem_of_getElem? (i := 196) (by decide +kernel)) (by decide +kernel)
theorem mw_197 : Cond.code (⟨"GrindingCircuit", "isShareTo", "(II)Z"⟩ : MethodName) prog_1_method_31_code (2 : Nat) (Option.some FieldType.boolean) ∈ gt := gt_of (List.mem_of_getElem? (i := 197) (by decide +kernel)) (by decide +kernel)
theorem mw_198 : Cond.methodLink "GrindingCircuit" (43 : Nat) (⟨"GrindingCircuit$Settings", "putShare", "(III)V"⟩ : MethodName) ∈ gt := gt_of (List.mem_of_getElem? (i := 198) (by decide +kernel)) (by decide +kernel)
theorem mw_199 : Cond.instanceMethod (⟨"GrindingCircuit$Settings", "putShare", "(III)V"⟩ : MethodName) ∈ gt := gt_of (List.mem_of_getElem? (i := 199) (by decide +kernel)) (by decide +kernel)
theorem mw_200 : Cond.selects "GrindingCircuit$Settings" (⟨"GrindingCircuit$Settings", "putShare", "(III)V"⟩ : MethodName) (⟨"GrindingCircuit$Settings", "putShare", "(III)V"⟩ : MethodName) ∈ gt := gt_of (List.mem_of_getElem? (i := 200) (by decide +kernel)) (by decide +kernel)
theorem mw_201 : Cond.code (⟨"GrindingCircuit$Settings", "putShare", "(III)V"⟩ : MethodName) prog_4_method_2_code (4 : Nat) (Option.none : Option FieldType) ∈ gt := gt_of (List.mem_of_getElem? (i := 201) (by decide +kernel)) (by decide +kernel)
theorem mw_203 : Cond.methodLink "GrindingCircuitLaw" (18 : Nat) (⟨"GrindingCircuit", "share", "(II)I"⟩ : MethodName) ∈ gt := gt_of (List.mem_of_getElem? (i := 203) (by decide +kernel)) (by decide +kernel)
theorem mw_204 : Cond.instanceMethod (⟨"GrindingCircuit", "share", "(II)I"⟩ : MethodName) ∈ gt := gt_of (List.mem_of_getElem? (i := 204) (by decide +kernel)) (by decide +kernel)
theorem mw_205 : Cond.selects "GrindingCircuit" (⟨"GrindingCircuit", "share", "(II)I"⟩ : MethodName) (⟨"GrindingCircuit", "share", "(II)I"⟩ : MethodName) ∈ gt := gt_of (List.mem_of_getElem? (i := 205) (by decide +kernel)) (by decide +kernel)
theorem mw_206 : Cond.code (⟨"GrindingCircuit", "share", "(II)I"⟩ : MethodName) prog_1_method_3_code (3 : Nat) (Option.some FieldType.int) ∈ gt := gt_of (List.mem_of_getElem? (i := 206) (by decide +kernel)) (by decide +kernel)
theorem mw_207 : Cond.methodLink "GrindingCircuitLaw" (23 : Nat) (⟨"GrindingCircuit", "setReturn", "(II)I"⟩ : MethodName) ∈ gt := gt_of (List.mem_of_getElem? (i := 207) (by decide +kernel)) (by decide +kernel)
theorem mw_208 : Cond.instanceMethod (⟨"GrindingCircuit", "setReturn", "(II)I"⟩ : MethodName) ∈ gt := gt_of (List.mem_of_getElem? (i := 208) (by decide +kernel)) (by decide +kernel)
theorem mw_209 : Cond.selects "GrindingCircuit" (⟨"GrindingCircuit", "setReturn", "(II)I"⟩ : MethodName) (⟨"GrindingCircuit", "setReturn", "(II)I"⟩ : MethodName) ∈ gt := gt_of (List.mem_of_getElem? (i := 209) (by decide +kernel)) (by decide +kernel)
theorem mw_210 : Cond.code (⟨"GrindingCircuit", "setReturn", "(II)I"⟩ : MethodName) prog_1_method_4_code (3 : Nat) (Option.some FieldType.int) ∈ gt := gt_of (List.mem_of_getElem? (i := 210) (by decide +kernel)) (by decide +kernel)
theorem mw_211 : Cond.methodLink "GrindingCircuit" (57 : Nat) (⟨"GrindingCircuit", "exchange", "([IIII)I"⟩ : MethodName) ∈ gt := gt_of (List.mem_of_getElem? (i := 211) (by decide +kernel)) (by decide +kernel)
theorem mw_212 : Cond.static (⟨"GrindingCircuit", "exchange", "([IIII)I"⟩ : MethodName) ∈ gt := gt_of (List.mem_of_getElem? (i := 212) (by decide +kernel)) (by decide +kernel)
theorem mw_213 : Cond.code (⟨"GrindingCircuit", "exchange", "([IIII)I"⟩ : MethodName) prog_1_method_34_code (5 : Nat) (Option.some FieldType.int) ∈ gt := gt_of (List.mem_of_getElem? (i := 213) (by decide +kernel)) (by decide +kernel)
theorem mw_214 : Cond.methodLink "GrindingCircuitLaw" (27 : Nat) (⟨"GrindingCircuit", "setWork", "(II)I"⟩ : MethodName) ∈ gt := gt_of (List.mem_of_getElem? (i := 214) (by decide +kernel)) (by decide +kernel)
theorem mw_215 : Cond.instanceMethod (⟨"GrindingCircuit", "setWork", "(II)I"⟩ : MethodName) ∈ gt := gt_of (List.mem_of_getElem? (i := 215) (by decide +kernel)) (by decide +kernel)
theorem mw_216 : Cond.selects "GrindingCircuit" (⟨"GrindingCircuit", "setWork", "(II)I"⟩ : MethodName) (⟨"GrindingCircuit", "setWork", "(II)I"⟩ : MethodName) ∈ gt := gt_of (List.mem_of_getElem? (i := 216) (by decide +kernel)) (by decide +kernel)
theorem mw_217 : Cond.code (⟨"GrindingCircuit", "setWork", "(II)I"⟩ : MethodName) prog_1_method_5_code (3 : Nat) (Option.some FieldType.int) ∈ gt := gt_of (List.mem_of_getElem? (i := 217) (by decide +kernel)) (by decide +kernel)
theorem mw_218 : Cond.methodLink "GrindingCircuitLaw" (31 : Nat) (⟨"GrindingCircuit", "setFeed", "(II)I"⟩ : MethodName) ∈ gt := gt_of (List.mem_of_getElem? (i := 218) (by decide +kernel)) (by decide +kernel)
theorem mw_219 : Cond.instanceMethod (⟨"GrindingCircuit", "setFeed", "(II)I"⟩ : MethodName) ∈ gt := gt_of (List.mem_of_getElem? (i := 219) (by decide +kernel)) (by decide +kernel)
theorem mw_220 : Cond.selects "GrindingCircuit" (⟨"GrindingCircuit", "setFeed", "(II)I"⟩ : MethodName) (⟨"GrindingCircuit", "setFeed", "(II)I"⟩ : MethodName) ∈ gt := gt_of (List.mem_of_getElem? (i := 220) (by decide +kernel)) (by decide +kernel)
theorem mw_221 : Cond.code (⟨"GrindingCircuit", "setFeed", "(II)I"⟩ : MethodName) prog_1_method_6_code (3 : Nat) (Option.some FieldType.int) ∈ gt := gt_of (List.mem_of_getElem? (i := 221) (by decide +kernel)) (by decide +kernel)
theorem mw_222 : Cond.methodLink "GrindingCircuitLaw" (35 : Nat) (⟨"GrindingCircuit", "load", "(II)J"⟩ : MethodName) ∈ gt := gt_of (List.mem_of_getElem? (i := 222) (by decide +kernel)) (by decide +kernel)
theorem mw_223 : Cond.instanceMethod (⟨"GrindingCircuit", "load", "(II)J"⟩ : MethodName) ∈ gt := gt_of (List.mem_of_getElem? (i := 223) (by decide +kernel)) (by decide +kernel)
theorem mw_224 : Cond.selects "GrindingCircuit" (⟨"GrindingCircuit", "load", "(II)J"⟩ : MethodName) (⟨"GrindingCircuit", "load", "(II)J"⟩ : MethodName) ∈ gt := gt_of (List.mem_of_getElem? (i := 224) (by decide +kernel)) (by decide +kernel)
theorem mw_225 : Cond.code (⟨"GrindingCircuit", "load", "(II)J"⟩ : MethodName) prog_1_method_7_code (3 : Nat) (Option.some FieldType.long) ∈ gt := gt_of (List.mem_of_getElem? (i := 225) (by decide +kernel)) (by decide +kernel)
theorem mw_226 : Cond.constantLong "GrindingCircuit" (67 : Nat) (-1 : Int64) ∈ gt := gt_of (List.mem_of_getElem? (i := 226) (by decide +kernel)) (by decide +kernel)
theorem mw_227 : Cond.methodLink "GrindingCircuit" (69 : Nat) (⟨"GrindingCircuit", "isZeroOrOne", "(I)Z"⟩ : MethodName) ∈ gt := gt_of (List.mem_of_getElem? (i := 227) (by decide +kernel)) (by decide +kernel)
theorem mw_228 : Cond.static (⟨"GrindingCircuit", "isZeroOrOne", "(I)Z"⟩ : MethodName) ∈ gt := gt_of (List.mem_of_getElem? (i := 228) (by decide +kernel)) (by decide +kernel)
theorem mw_229 : Cond.code (⟨"GrindingCircuit", "isZeroOrOne", "(I)Z"⟩ : MethodName) prog_1_method_29_code (1 : Nat) (Option.some FieldType.boolean) ∈ gt := gt_of (List.mem_of_getElem? (i := 229) (by decide +kernel)) (by decide +kernel)
theorem mw_230 : Cond.constantLong "GrindingCircuit" (72 : Nat) (-3 : Int64) ∈ gt := gt_of (List.mem_of_getElem? (i := 230) (by decide +kernel)) (by decide +kernel)
theorem mw_231 : Cond.methodLink "GrindingCircuit" (74 : Nat) (⟨"GrindingCircuit$SteadyState", "solve", "(LGrindingCircuit$Settings;[I)V"⟩ : MethodName) ∈ gt := gt_of (List.mem_of_getElem? (i := 231) (by decide +kernel)) (by decide +kernel)
theorem mw_232 : Cond.instanceMethod (⟨"GrindingCircuit$SteadyState", "solve", "(LGrindingCircuit$Settings;[I)V"⟩ : MethodName) ∈ gt := gt_of (List.mem_of_getElem? (i := 232) (by decide +kernel)) (by decide +kernel)
theorem mw_233 : Cond.selects "GrindingCircuit$SteadyState" (⟨"GrindingCircuit$SteadyState", "solve", "(LGrindingCircuit$Settings;[I)V"⟩ : MethodName) (⟨"GrindingCircuit$SteadyState", "solve", "(LGrindingCircuit$Settings;[I)V"⟩ : MethodName) ∈ gt := gt_of (List.mem_of_getElem? (i := 233) (by decide +kernel)) (by decide +kernel)
theorem mw_234 : Cond.code (⟨"GrindingCircuit$SteadyState", "solve", "(LGrindingCircuit$Settings;[I)V"⟩ : MethodName) prog_6_method_3_code (4 : Nat) (Option.none : Option FieldType) ∈ gt := gt_of (List.mem_of_getElem? (i := 234) (by decide +kernel)) (by decide +kernel)
theorem mw_235 : Cond.methodLink "GrindingCircuit$SteadyState" (31 : Nat) (⟨"GrindingCircuit$SteadyState", "solveSize", "(LGrindingCircuit$Settings;II)V"⟩ : MethodName) ∈ gt := gt_of (List.mem_of_getElem? (i := 235) (by decide +kernel)) (by decide +kernel)
theorem mw_237 : Cond.instanceMethod (⟨"GrindingCircuit$SteadyState", "solveSize", "(LGrindingCircuit$Settings;II)V"⟩ : MethodName) ∈ gt := gt_of (List.mem_of_getElem? (i := 237) (by decide +kernel)) (by decide +kernel)
theorem mw_238 : Cond.code (⟨"GrindingCircuit$SteadyState", "solveSize", "(LGrindingCircuit$Settings;II)V"⟩ : MethodName) prog_6_method_4_code (9 : Nat) (Option.none : Option FieldType) ∈ gt := gt_of (List.mem_of_getElem? (i := 238) (by decide +kernel)) (by decide +kernel)
theorem mw_239 : Cond.methodLink "GrindingCircuit$SteadyState" (35 : Nat) (⟨"GrindingCircuit$SteadyState", "brokenInto", "(LGrindingCircuit$Settings;I)J"⟩ : MethodName) ∈ gt := gt_of (List.mem_of_getElem? (i := 239) (by decide +kernel)) (by decide +kernel)
theorem mw_240 : Cond.instanceMethod (⟨"GrindingCircuit$SteadyState", "brokenInto", "(LGrindingCircuit$Settings;I)J"⟩ : MethodName) ∈ gt := gt_of (List.mem_of_getElem? (i := 240) (by decide +kernel)) (by decide +kernel)
theorem mw_241 : Cond.selects "GrindingCircuit$SteadyState" (⟨"GrindingCircuit$SteadyState", "brokenInto", "(LGrindingCircuit$Settings;I)J"⟩ : MethodName) (⟨"GrindingCircuit$SteadyState", "brokenInto", "(LGrindingCircuit$Settings;I)J"⟩ : MethodName) ∈ gt := gt_of (List.mem_of_getElem? (i := 241) (by decide +kernel)) (by decide +kernel)
theorem mw_242 : Cond.code (⟨"GrindingCircuit$SteadyState", "brokenInto", "(LGrindingCircuit$Settings;I)J"⟩ : MethodName) prog_6_method_5_code (6 : Nat) (Option.some FieldType.long) ∈ gt := gt_of (List.mem_of_getElem? (i := 242) (by decide +kernel)) (by decide +kernel)
theorem mw_243 : Cond.constantLong "GrindingCircuit" (82 : Nat) (-5 : Int64) ∈ gt := gt_of (List.mem_of_getElem? (i := 243) (by decide +kernel)) (by decide +kernel)
theorem mw_244 : Cond.methodLink "GrindingCircuit" (92 : Nat) (⟨"GrindingCircuit", "partOf", "(JJI)J"⟩ : MethodName) ∈ gt := gt_of (List.mem_of_getElem? (i := 244) (by decide +kernel)) (by decide +kernel)
theorem mw_245 : Cond.static (⟨"GrindingCircuit", "partOf", "(JJI)J"⟩ : MethodName) ∈ gt := gt_of (List.mem_of_getElem? (i := 245) (by decide +kernel)) (by decide +kernel)
theorem mw_246 : Cond.code (⟨"GrindingCircuit", "partOf", "(JJI)J"⟩ : MethodName) prog_1_method_37_code (7 : Nat) (Option.some FieldType.long) ∈ gt := gt_of (List.mem_of_getElem? (i := 246) (by decide +kernel)) (by decide +kernel)
theorem mw_247 : Cond.methodLink "GrindingCircuit" (230 : Nat) (⟨"GrindingCircuit", "commonDivisor", "(JJ)J"⟩ : MethodName) ∈ gt := gt_of (List.mem_of_getElem? (i := 247) (by decide +kernel)) (by decide +kernel)
theorem mw_248 : Cond.static (⟨"GrindingCircuit", "commonDivisor", "(JJ)J"⟩ : MethodName) ∈ gt := gt_of (List.mem_of_getElem? (i := 248) (by decide +kernel)) (by decide +kernel)
theorem mw_249 : Cond.code (⟨"GrindingCircuit", "commonDivisor", "(JJ)J"⟩ : MethodName) prog_1_method_38_code (11 : Nat) (Option.some FieldType.long) ∈ gt := gt_of (List.mem_of_getElem? (i := 249) (by decide +kernel)) (by decide +kernel)
theorem mw_250 : Cond.methodLink "GrindingCircuitLaw" (40 : Nat) (⟨"GrindingCircuit", "product", "(II)J"⟩ : MethodName) ∈ gt := gt_of (List.mem_of_getElem? (i := 250) (by decide +kernel)) (by decide +kernel)
theorem mw_251 : Cond.instanceMethod (⟨"GrindingCircuit", "product", "(II)J"⟩ : MethodName) ∈ gt := gt_of (List.mem_of_getElem? (i := 251) (by decide +kernel)) (by decide +kernel)
theorem mw_252 : Cond.selects "GrindingCircuit" (⟨"GrindingCircuit", "product", "(II)J"⟩ : MethodName) (⟨"GrindingCircuit", "product", "(II)J"⟩ : MethodName) ∈ gt := gt_of (List.mem_of_getElem? (i := 252) (by decide +kernel)) (by decide +kernel)
theorem mw_253 : Cond.code (⟨"GrindingCircuit", "product", "(II)J"⟩ : MethodName) prog_1_method_8_code (8 : Nat) (Option.some FieldType.long) ∈ gt := gt_of (List.mem_of_getElem? (i := 253) (by decide +kernel)) (by decide +kernel)
theorem mw_254 : Cond.methodLink "GrindingCircuit" (96 : Nat) (⟨"GrindingCircuit$SteadyState", "brokenInto", "(LGrindingCircuit$Settings;I)J"⟩ : MethodName) ∈ gt := gt_of (List.mem_of_getElem? (i := 254) (by decide +kernel)) (by decide +kernel)
theorem mw_255 : Cond.constantLong "GrindingCircuit" (100 : Nat) (10 : Int64) ∈ gt := gt_of (List.mem_of_getElem? (i := 255) (by decide +kernel)) (by decide +kernel)
theorem mw_256 : Cond.methodLink "GrindingCircuitLaw" (44 : Nat) (⟨"GrindingCircuit", "circulatingLoad", "(I)J"⟩ : MethodName) ∈ gt := gt_of (List.mem_of_getElem? (i := 256) (by decide +kernel)) (by decide +kernel)
theorem mw_257 : Cond.instanceMethod (⟨"GrindingCircuit", "circulatingLoad", "(I)J"⟩ : MethodName) ∈ gt := gt_of (List.mem_of_getElem? (i := 257) (by decide +kernel)) (by decide +kernel)
theorem mw_258 : Cond.selects "GrindingCircuit" (⟨"GrindingCircuit", "circulatingLoad", "(I)J"⟩ : MethodName) (⟨"GrindingCircuit", "circulatingLoad", "(I)J"⟩ : MethodName) ∈ gt := gt_of (List.mem_of_getElem? (i := 258) (by decide +kernel)) (by decide +kernel)
theorem mw_259 : Cond.code (⟨"GrindingCircuit", "circulatingLoad", "(I)J"⟩ : MethodName) prog_1_method_9_code (4 : Nat) (Option.some FieldType.long) ∈ gt := gt_of (List.mem_of_getElem? (i := 259) (by decide +kernel)) (by decide +kernel)
theorem mw_260 : Cond.methodLink "GrindingCircuit" (102 : Nat) (⟨"GrindingCircuit", "sum", "([I)I"⟩ : MethodName) ∈ gt := gt_of (List.mem_of_getElem? (i := 260) (by decide +kernel)) (by decide +kernel)
theorem mw_261 : Cond.static (⟨"GrindingCircuit", "sum", "([I)I"⟩ : MethodName) ∈ gt := gt_of (List.mem_of_getElem? (i := 261) (by decide +kernel)) (by decide +kernel)
theorem mw_262 : Cond.code (⟨"GrindingCircuit", "sum", "([I)I"⟩ : MethodName) prog_1_method_36_code (6 : Nat) (Option.some FieldType.int) ∈ gt := gt_of (List.mem_of_getElem? (i := 262) (by decide +kernel)) (by decide +kernel)
theorem mw_263 : Cond.constantLong "GrindingCircuit" (106 : Nat) (-7 : Int64) ∈ gt := gt_of (List.mem_of_getElem? (i := 263) (by decide +kernel)) (by decide +kernel)
theorem mw_264 : Cond.methodLink "GrindingCircuit" (108 : Nat) (⟨"GrindingCircuit$SteadyState", "sumOfLoads", "()J"⟩ : MethodName) ∈ gt := gt_of (List.mem_of_getElem? (i := 264) (by decide +kernel)) (by decide +kernel)
theorem mw_265 : Cond.instanceMethod (⟨"GrindingCircuit$SteadyState", "sumOfLoads", "()J"⟩ : MethodName) ∈ gt := gt_of (List.mem_of_getElem? (i := 265) (by decide +kernel)) (by decide +kernel)
theorem mw_266 : Cond.selects "GrindingCircuit$SteadyState" (⟨"GrindingCircuit$SteadyState", "sumOfLoads", "()J"⟩ : MethodName) (⟨"GrindingCircuit$SteadyState", "sumOfLoads", "()J"⟩ : MethodName) ∈ gt := gt_of (List.mem_of_getElem? (i := 266) (by decide +kernel)) (by decide +kernel)
theorem mw_267 : Cond.code (⟨"GrindingCircuit$SteadyState", "sumOfLoads", "()J"⟩ : MethodName) prog_6_method_6_code (8 : Nat) (Option.some FieldType.long) ∈ gt := gt_of (List.mem_of_getElem? (i := 267) (by decide +kernel)) (by decide +kernel)
theorem mw_268 : Cond.methodLink "GrindingCircuitLaw" (49 : Nat) (⟨"GrindingCircuit", "power", "(I)J"⟩ : MethodName) ∈ gt := gt_of (List.mem_of_getElem? (i := 268) (by decide +kernel)) (by decide +kernel)
theorem mw_269 : Cond.instanceMethod (⟨"GrindingCircuit", "power", "(I)J"⟩ : MethodName) ∈ gt := gt_of (List.mem_of_getElem? (i := 269) (by decide +kernel)) (by decide +kernel)
theorem mw_270 : Cond.selects "GrindingCircuit" (⟨"GrindingCircuit", "power", "(I)J"⟩ : MethodName) (⟨"GrindingCircuit", "power", "(I)J"⟩ : MethodName) ∈ gt := gt_of (List.mem_of_getElem? (i := 270) (by decide +kernel)) (by decide +kernel)
theorem mw_271 : Cond.code (⟨"GrindingCircuit", "power", "(I)J"⟩ : MethodName) prog_1_method_10_code (2 : Nat) (Option.some FieldType.long) ∈ gt := gt_of (List.mem_of_getElem? (i := 271) (by decide +kernel)) (by decide +kernel)
theorem mw_272 : Cond.methodLink "GrindingCircuit" (112 : Nat) (⟨"GrindingCircuit$SteadyState", "scaledPower", "([I)J"⟩ : MethodName) ∈ gt := gt_of (List.mem_of_getElem? (i := 272) (by decide +kernel)) (by decide +kernel)
theorem mw_273 : Cond.instanceMethod (⟨"GrindingCircuit$SteadyState", "scaledPower", "([I)J"⟩ : MethodName) ∈ gt := gt_of (List.mem_of_getElem? (i := 273) (by decide +kernel)) (by decide +kernel)
theorem mw_274 : Cond.selects "GrindingCircuit$SteadyState" (⟨"GrindingCircuit$SteadyState", "scaledPower", "([I)J"⟩ : MethodName) (⟨"GrindingCircuit$SteadyState", "scaledPower", "([I)J"⟩ : MethodName) ∈ gt := gt_of (List.mem_of_getElem? (i := 274) (by decide +kernel)) (by decide +kernel)
theorem mw_275 : Cond.code (⟨"GrindingCircuit$SteadyState", "scaledPower", "([I)J"⟩ : MethodName) prog_6_method_7_code (5 : Nat) (Option.some FieldType.long) ∈ gt := gt_of (List.mem_of_getElem? (i := 275) (by decide +kernel)) (by decide +kernel)
theorem mw_276 : Cond.methodLink "GrindingCircuitLaw" (53 : Nat) (⟨"GrindingCircuit", "cutPower", "(II)J"⟩ : MethodName) ∈ gt := gt_of (List.mem_of_getElem? (i := 276) (by decide +kernel)) (by decide +kernel)
theorem mw_277 : Cond.instanceMethod (⟨"GrindingCircuit", "cutPower", "(II)J"⟩ : MethodName) ∈ gt := gt_of (List.mem_of_getElem? (i := 277) (by decide +kernel)) (by decide +kernel)
theorem mw_278 : Cond.selects "GrindingCircuit" (⟨"GrindingCircuit", "cutPower", "(II)J"⟩ : MethodName) (⟨"GrindingCircuit", "cutPower", "(II)J"⟩ : MethodName) ∈ gt := gt_of (List.mem_of_getElem? (i := 278) (by decide +kernel)) (by decide +kernel)
theorem mw_279 : Cond.code (⟨"GrindingCircuit", "cutPower", "(II)J"⟩ : MethodName) prog_1_method_11_code (3 : Nat) (Option.some FieldType.long) ∈ gt := gt_of (List.mem_of_getElem? (i := 279) (by decide +kernel)) (by decide +kernel)
theorem mw_280 : Cond.methodLink "GrindingCircuit" (120 : Nat) (⟨"GrindingCircuit$SteadyState", "solveCut", "(LGrindingCircuit$Settings;I)V"⟩ : MethodName) ∈ gt := gt_of (List.mem_of_getElem? (i := 280) (by decide +kernel)) (by decide +kernel)
theorem mw_281 : Cond.instanceMethod (⟨"GrindingCircuit$SteadyState", "solveCut", "(LGrindingCircuit$Settings;I)V"⟩ : MethodName) ∈ gt := gt_of (List.mem_of_getElem? (i := 281) (by decide +kernel)) (by decide +kernel)
theorem mw_282 : Cond.selects "GrindingCircuit$SteadyState" (⟨"GrindingCircuit$SteadyState", "solveCut", "(LGrindingCircuit$Settings;I)V"⟩ : MethodName) (⟨"GrindingCircuit$SteadyState", "solveCut", "(LGrindingCircuit$Settings;I)V"⟩ : MethodName) ∈ gt := gt_of (List.mem_of_getElem? (i := 282) (by decide +kernel)) (by decide +kernel)
theorem mw_283 : Cond.code (⟨"GrindingCircuit$SteadyState", "solveCut", "(LGrindingCircuit$Settings;I)V"⟩ : MethodName) prog_6_method_2_code (4 : Nat) (Option.none : Option FieldType) ∈ gt := gt_of (List.mem_of_getElem? (i := 283) (by decide +kernel)) (by decide +kernel)
theorem mw_284 : Cond.methodLink "GrindingCircuit$SteadyState" (27 : Nat) (⟨"GrindingCircuit$SteadyState", "solve", "(LGrindingCircuit$Settings;[I)V"⟩ : MethodName) ∈ gt := gt_of (List.mem_of_getElem? (i := 284) (by decide +kernel)) (by decide +kernel)
theorem mw_285 : Cond.methodLink "GrindingCircuitLaw" (57 : Nat) (⟨"GrindingCircuit", "finestCut", "(I)I"⟩ : MethodName) ∈ gt := gt_of (List.mem_of_getElem? (i := 285) (by decide +kernel)) (by decide +kernel)
theorem mw_286 : Cond.instanceMethod (⟨"GrindingCircuit", "finestCut", "(I)I"⟩ : MethodName) ∈ gt := gt_of (List.mem_of_getElem? (i := 286) (by decide +kernel)) (by decide +kernel)
theorem mw_287 : Cond.selects "GrindingCircuit" (⟨"GrindingCircuit", "finestCut", "(I)I"⟩ : MethodName) (⟨"GrindingCircuit", "finestCut", "(I)I"⟩ : MethodName) ∈ gt := gt_of (List.mem_of_getElem? (i := 287) (by decide +kernel)) (by decide +kernel)
theorem mw_288 : Cond.code (⟨"GrindingCircuit", "finestCut", "(I)I"⟩ : MethodName) prog_1_method_12_code (3 : Nat) (Option.some FieldType.int) ∈ gt := gt_of (List.mem_of_getElem? (i := 288) (by decide +kernel)) (by decide +kernel)
theorem mw_289 : Cond.constant "GrindingCircuit" (124 : Nat) (1000000000 : Int32) ∈ gt := gt_of (List.mem_of_getElem? (i := 289) (by decide +kernel)) (by decide +kernel)
theorem mw_290 : Cond.methodLink "GrindingCircuitLaw" (62 : Nat) (⟨"GrindingCircuit", "addLot", "(IIII)I"⟩ : MethodName) ∈ gt := gt_of (List.mem_of_getElem? (i := 290) (by decide +kernel)) (by decide +kernel)
theorem mw_291 : Cond.instanceMethod (⟨"GrindingCircuit", "addLot", "(IIII)I"⟩ : MethodName) ∈ gt := gt_of (List.mem_of_getElem? (i := 291) (by decide +kernel)) (by decide +kernel)
theorem mw_292 : Cond.selects "GrindingCircuit" (⟨"GrindingCircuit", "addLot", "(IIII)I"⟩ : MethodName) (⟨"GrindingCircuit", "addLot", "(IIII)I"⟩ : MethodName) ∈ gt := gt_of (List.mem_of_getElem? (i := 292) (by decide +kernel)) (by decide +kernel)
theorem mw_293 : Cond.code (⟨"GrindingCircuit", "addLot", "(IIII)I"⟩ : MethodName) prog_1_method_13_code (7 : Nat) (Option.some FieldType.int) ∈ gt := gt_of (List.mem_of_getElem? (i := 293) (by decide +kernel)) (by decide +kernel)
theorem mw_294 : Cond.methodLink "GrindingCircuit" (125 : Nat) (⟨"GrindingCircuit", "areLotMasses", "(IIII)Z"⟩ : MethodName) ∈ gt := gt_of (List.mem_of_getElem? (i := 294) (by decide +kernel)) (by decide +kernel)
theorem mw_295 : Cond.static (⟨"GrindingCircuit", "areLotMasses", "(IIII)Z"⟩ : MethodName) ∈ gt := gt_of (List.mem_of_getElem? (i := 295) (by decide +kernel)) (by decide +kernel)
theorem mw_296 : Cond.code (⟨"GrindingCircuit", "areLotMasses", "(IIII)Z"⟩ : MethodName) prog_1_method_33_code (4 : Nat) (Option.some FieldType.boolean) ∈ gt := gt_of (List.mem_of_getElem? (i := 296) (by decide +kernel)) (by decide +kernel)
theorem mw_297 : Cond.methodLink "GrindingCircuit" (227 : Nat) (⟨"GrindingCircuit", "isLotMass", "(I)Z"⟩ : MethodName) ∈ gt := gt_of (List.mem_of_getElem? (i := 297) (by decide +kernel)) (by decide +kernel)
theorem mw_298 : Cond.static (⟨"GrindingCircuit", "isLotMass", "(I)Z"⟩ : MethodName) ∈ gt := gt_of (List.mem_of_getElem? (i := 298) (by decide +kernel)) (by decide +kernel)
theorem mw_299 : Cond.code (⟨"GrindingCircuit", "isLotMass", "(I)Z"⟩ : MethodName) prog_1_method_32_code (1 : Nat) (Option.some FieldType.boolean) ∈ gt := gt_of (List.mem_of_getElem? (i := 299) (by decide +kernel)) (by decide +kernel)
theorem mw_300 : Cond.methodLink "GrindingCircuit" (133 : Nat) (⟨"GrindingCircuit$Simulation", "isFull", "()Z"⟩ : MethodName) ∈ gt := gt_of (List.mem_of_getElem? (i := 300) (by decide +kernel)) (by decide +kernel)
theorem mw_301 : Cond.instanceMethod (⟨"GrindingCircuit$Simulation", "isFull", "()Z"⟩ : MethodName) ∈ gt := gt_of (List.mem_of_getElem? (i := 301) (by decide +kernel)) (by decide +kernel)
theorem mw_302 : Cond.selects "GrindingCircuit$Simulation" (⟨"GrindingCircuit$Simulation", "isFull", "()Z"⟩ : MethodName) (⟨"GrindingCircuit$Simulation", "isFull", "()Z"⟩ : MethodName) ∈ gt := gt_of (List.mem_of_getElem? (i := 302) (by decide +kernel)) (by decide +kernel)
theorem mw_303 : Cond.code (⟨"GrindingCircuit$Simulation", "isFull", "()Z"⟩ : MethodName) prog_5_method_3_code (1 : Nat) (Option.some FieldType.boolean) ∈ gt := gt_of (List.mem_of_getElem? (i := 303) (by decide +kernel)) (by decide +kernel)
theorem mw_304 : Cond.methodLink "GrindingCircuit" (139 : Nat) (⟨"GrindingCircuit$Simulation", "create", "(IIII)I"⟩ : MethodName) ∈ gt := gt_of (List.mem_of_getElem? (i := 304) (by decide +kernel)) (by decide +kernel)
theorem mw_305 : Cond.instanceMethod (⟨"GrindingCircuit$Simulation", "create", "(IIII)I"⟩ : MethodName) ∈ gt := gt_of (List.mem_of_getElem? (i := 305) (by decide +kernel)) (by decide +kernel)
theorem mw_306 : Cond.selects "GrindingCircuit$Simulation" (⟨"GrindingCircuit$Simulation", "create", "(IIII)I"⟩ : MethodName) (⟨"GrindingCircuit$Simulation", "create", "(IIII)I"⟩ : MethodName) ∈ gt := gt_of (List.mem_of_getElem? (i := 306) (by decide +kernel)) (by decide +kernel)
theorem mw_307 : Cond.code (⟨"GrindingCircuit$Simulation", "create", "(IIII)I"⟩ : MethodName) prog_5_method_6_code (7 : Nat) (Option.some FieldType.int) ∈ gt := gt_of (List.mem_of_getElem? (i := 307) (by decide +kernel)) (by decide +kernel)
theorem mw_308 : Cond.methodLink "GrindingCircuit" (147 : Nat) (⟨"GrindingCircuit$Simulation", "putIntoBin", "(LGrindingCircuit$Lot;)V"⟩ : MethodName) ∈ gt := gt_of (List.mem_of_getElem? (i := 308) (by decide +kernel)) (by decide +kernel)
theorem mw_309 : Cond.instanceMethod (⟨"GrindingCircuit$Simulation", "putIntoBin", "(LGrindingCircuit$Lot;)V"⟩ : MethodName) ∈ gt := gt_of (List.mem_of_getElem? (i := 309) (by decide +kernel)) (by decide +kernel)
theorem mw_310 : Cond.selects "GrindingCircuit$Simulation" (⟨"GrindingCircuit$Simulation", "putIntoBin", "(LGrindingCircuit$Lot;)V"⟩ : MethodName) (⟨"GrindingCircuit$Simulation", "putIntoBin", "(LGrindingCircuit$Lot;)V"⟩ : MethodName) ∈ gt := gt_of (List.mem_of_getElem? (i := 310) (by decide +kernel)) (by decide +kernel)
theorem mw_311 : Cond.code (⟨"GrindingCircuit$Simulation", "putIntoBin", "(LGrindingCircuit$Lot;)V"⟩ : MethodName) prog_5_method_8_code (2 : Nat) (Option.none : Option FieldType) ∈ gt := gt_of (List.mem_of_getElem? (i := 311) (by decide +kernel)) (by decide +kernel)
theorem mw_312 : Cond.methodLink "GrindingCircuit" (151 : Nat) (⟨"GrindingCircuit$Simulation", "startIfIdle", "(LGrindingCircuit$Settings;)V"⟩ : MethodName) ∈ gt := gt_of (List.mem_of_getElem? (i := 312) (by decide +kernel)) (by decide +kernel)
theorem mw_313 : Cond.instanceMethod (⟨"GrindingCircuit$Simulation", "startIfIdle", "(LGrindingCircuit$Settings;)V"⟩ : MethodName) ∈ gt := gt_of (List.mem_of_getElem? (i := 313) (by decide +kernel)) (by decide +kernel)
theorem mw_314 : Cond.selects "GrindingCircuit$Simulation" (⟨"GrindingCircuit$Simulation", "startIfIdle", "(LGrindingCircuit$Settings;)V"⟩ : MethodName) (⟨"GrindingCircuit$Simulation", "startIfIdle", "(LGrindingCircuit$Settings;)V"⟩ : MethodName) ∈ gt := gt_of (List.mem_of_getElem? (i := 314) (by decide +kernel)) (by decide +kernel)
theorem mw_315 : Cond.code (⟨"GrindingCircuit$Simulation", "startIfIdle", "(LGrindingCircuit$Settings;)V"⟩ : MethodName) prog_5_method_13_code (4 : Nat) (Option.none : Option FieldType) ∈ gt := gt_of (List.mem_of_getElem? (i := 315) (by decide +kernel)) (by decide +kernel)
theorem mw_316 : Cond.methodLink "GrindingCircuit$Simulation" (83 : Nat) (⟨"GrindingCircuit$Simulation", "isIdle", "()Z"⟩ : MethodName) ∈ gt := gt_of (List.mem_of_getElem? (i := 316) (by decide +kernel)) (by decide +kernel)
theorem mw_317 : Cond.instanceMethod (⟨"GrindingCircuit$Simulation", "isIdle", "()Z"⟩ : MethodName) ∈ gt := gt_of (List.mem_of_getElem? (i := 317) (by decide +kernel)) (by decide +kernel)
theorem mw_318 : Cond.selects "GrindingCircuit$Simulation" (⟨"GrindingCircuit$Simulation", "isIdle", "()Z"⟩ : MethodName) (⟨"GrindingCircuit$Simulation", "isIdle", "()Z"⟩ : MethodName) ∈ gt := gt_of (List.mem_of_getElem? (i := 318) (by decide +kernel)) (by decide +kernel)
theorem mw_319 : Cond.code (⟨"GrindingCircuit$Simulation", "isIdle", "()Z"⟩ : MethodName) prog_5_method_4_code (1 : Nat) (Option.some FieldType.boolean) ∈ gt := gt_of (List.mem_of_getElem? (i := 319) (by decide +kernel)) (by decide +kernel)
theorem mw_320 : Cond.methodLink "GrindingCircuit$Simulation" (127 : Nat) (⟨"GrindingCircuit$Simulation", "firstOfBin", "(I)I"⟩ : MethodName) ∈ gt := gt_of (List.mem_of_getElem? (i := 320) (by decide +kernel)) (by decide +kernel)
theorem mw_322 : Cond.instanceMethod (⟨"GrindingCircuit$Simulation", "firstOfBin", "(I)I"⟩ : MethodName) ∈ gt := gt_of (List.mem_of_getElem? (i := 322) (by decide +kernel)) (by decide +kernel)
theorem mw_323 : Cond.code (⟨"GrindingCircuit$Simulation", "firstOfBin", "(I)I"⟩ : MethodName) prog_5_method_15_code (5 : Nat) (Option.some FieldType.int) ∈ gt := gt_of (List.mem_of_getElem? (i := 323) (by decide +kernel)) (by decide +kernel)
theorem mw_324 : Cond.methodLink "GrindingCircuit$Simulation" (134 : Nat) (⟨"GrindingCircuit$Lot", "standsBefore", "(LGrindingCircuit$Lot;I)Z"⟩ : MethodName) ∈ gt := gt_of (List.mem_of_getElem? (i := 324) (by decide +kernel)) (by decide +kernel)
theorem mw_325 : Cond.instanceMethod (⟨"GrindingCircuit$Lot", "standsBefore", "(LGrindingCircuit$Lot;I)Z"⟩ : MethodName) ∈ gt := gt_of (List.mem_of_getElem? (i := 325) (by decide +kernel)) (by decide +kernel)
theorem mw_326 : Cond.selects "GrindingCircuit$Lot" (⟨"GrindingCircuit$Lot", "standsBefore", "(LGrindingCircuit$Lot;I)Z"⟩ : MethodName) (⟨"GrindingCircuit$Lot", "standsBefore", "(LGrindingCircuit$Lot;I)Z"⟩ : MethodName) ∈ gt := gt_of (List.mem_of_getElem? (i := 326) (by decide +kernel)) (by decide +kernel)
theorem mw_327 : Cond.code (⟨"GrindingCircuit$Lot", "standsBefore", "(LGrindingCircuit$Lot;I)Z"⟩ : MethodName) prog_2_method_3_code (4 : Nat) (Option.some FieldType.boolean) ∈ gt := gt_of (List.mem_of_getElem? (i := 327) (by decide +kernel)) (by decide +kernel)
theorem mw_329 : Cond.methodLink "GrindingCircuit$Lot" (38 : Nat) (⟨"GrindingCircuit$Lot", "coarserBy", "(LGrindingCircuit$Lot;)I"⟩ : MethodName) ∈ gt := gt_of (List.mem_of_getElem? (i := 329) (by decide +kernel)) (by decide +kernel)
theorem mw_331 : Cond.instanceMethod (⟨"GrindingCircuit$Lot", "coarserBy", "(LGrindingCircuit$Lot;)I"⟩ : MethodName) ∈ gt := gt_of (List.mem_of_getElem? (i := 331) (by decide +kernel)) (by decide +kernel)
theorem mw_332 : Cond.code (⟨"GrindingCircuit$Lot", "coarserBy", "(LGrindingCircuit$Lot;)I"⟩ : MethodName) prog_2_method_4_code (3 : Nat) (Option.some FieldType.int) ∈ gt := gt_of (List.mem_of_getElem? (i := 332) (by decide +kernel)) (by decide +kernel)
theorem mw_334 : Cond.methodLink "GrindingCircuitLaw" (66 : Nat) (⟨"GrindingCircuit", "planLot", "(IIIII)I"⟩ : MethodName) ∈ gt := gt_of (List.mem_of_getElem? (i := 334) (by decide +kernel)) (by decide +kernel)
theorem mw_335 : Cond.instanceMethod (⟨"GrindingCircuit", "planLot", "(IIIII)I"⟩ : MethodName) ∈ gt := gt_of (List.mem_of_getElem? (i := 335) (by decide +kernel)) (by decide +kernel)
theorem mw_336 : Cond.selects "GrindingCircuit" (⟨"GrindingCircuit", "planLot", "(IIIII)I"⟩ : MethodName) (⟨"GrindingCircuit", "planLot", "(IIIII)I"⟩ : MethodName) ∈ gt := gt_of (List.mem_of_getElem? (i := 336) (by decide +kernel)) (by decide +kernel)
theorem mw_337 : Cond.code (⟨"GrindingCircuit", "planLot", "(IIIII)I"⟩ : MethodName) prog_1_method_14_code (8 : Nat) (Option.some FieldType.int) ∈ gt := gt_of (List.mem_of_getElem? (i := 337) (by decide +kernel)) (by decide +kernel)
theorem mw_338 : Cond.methodLink "GrindingCircuit" (155 : Nat) (⟨"GrindingCircuit$Simulation", "plan", "(LGrindingCircuit$Lot;I)V"⟩ : MethodName) ∈ gt := gt_of (List.mem_of_getElem? (i := 338) (by decide +kernel)) (by decide +kernel)
theorem mw_339 : Cond.instanceMethod (⟨"GrindingCircuit$Simulation", "plan", "(LGrindingCircuit$Lot;I)V"⟩ : MethodName) ∈ gt := gt_of (List.mem_of_getElem? (i := 339) (by decide +kernel)) (by decide +kernel)
theorem mw_340 : Cond.selects "GrindingCircuit$Simulation" (⟨"GrindingCircuit$Simulation", "plan", "(LGrindingCircuit$Lot;I)V"⟩ : MethodName) (⟨"GrindingCircuit$Simulation", "plan", "(LGrindingCircuit$Lot;I)V"⟩ : MethodName) ∈ gt := gt_of (List.mem_of_getElem? (i := 340) (by decide +kernel)) (by decide +kernel)
theorem mw_341 : Cond.code (⟨"GrindingCircuit$Simulation", "plan", "(LGrindingCircuit$Lot;I)V"⟩ : MethodName) prog_5_method_7_code (3 : Nat) (Option.none : Option FieldType) ∈ gt := gt_of (List.mem_of_getElem? (i := 341) (by decide +kernel)) (by decide +kernel)
theorem mw_342 : Cond.methodLink "GrindingCircuitLaw" (71 : Nat) (⟨"GrindingCircuit", "advance", "(I)I"⟩ : MethodName) ∈ gt := gt_of (List.mem_of_getElem? (i := 342) (by decide +kernel)) (by decide +kernel)
theorem mw_343 : Cond.instanceMethod (⟨"GrindingCircuit", "advance", "(I)I"⟩ : MethodName) ∈ gt := gt_of (List.mem_of_getElem? (i := 343) (by decide +kernel)) (by decide +kernel)
theorem mw_344 : Cond.selects "GrindingCircuit" (⟨"GrindingCircuit", "advance", "(I)I"⟩ : MethodName) (⟨"GrindingCircuit", "advance", "(I)I"⟩ : MethodName) ∈ gt := gt_of (List.mem_of_getElem? (i := 344) (by decide +kernel)) (by decide +kernel)
theorem mw_345 : Cond.code (⟨"GrindingCircuit", "advance", "(I)I"⟩ : MethodName) prog_1_method_15_code (2 : Nat) (Option.some FieldType.int) ∈ gt := gt_of (List.mem_of_getElem? (i := 345) (by decide +kernel)) (by decide +kernel)
theorem mw_346 : Cond.methodLink "GrindingCircuit" (159 : Nat) (⟨"GrindingCircuit$Simulation", "run", "(ILGrindingCircuit$Settings;)V"⟩ : MethodName) ∈ gt := gt_of (List.mem_of_getElem? (i := 346) (by decide +kernel)) (by decide +kernel)
theorem mw_347 : Cond.instanceMethod (⟨"GrindingCircuit$Simulation", "run", "(ILGrindingCircuit$Settings;)V"⟩ : MethodName) ∈ gt := gt_of (List.mem_of_getElem? (i := 347) (by decide +kernel)) (by decide +kernel)
theorem mw_348 : Cond.selects "GrindingCircuit$Simulation" (⟨"GrindingCircuit$Simulation", "run", "(ILGrindingCircuit$Settings;)V"⟩ : MethodName) (⟨"GrindingCircuit$Simulation", "run", "(ILGrindingCircuit$Settings;)V"⟩ : MethodName) ∈ gt := gt_of (List.mem_of_getElem? (i := 348) (by decide +kernel)) (by decide +kernel)
theorem mw_349 : Cond.code (⟨"GrindingCircuit$Simulation", "run", "(ILGrindingCircuit$Settings;)V"⟩ : MethodName) prog_5_method_9_code (6 : Nat) (Option.none : Option FieldType) ∈ gt := gt_of (List.mem_of_getElem? (i := 349) (by decide +kernel)) (by decide +kernel)
theorem mw_350 : Cond.methodLink "GrindingCircuit$Simulation" (69 : Nat) (⟨"GrindingCircuit$Simulation", "nextEvent", "()I"⟩ : MethodName) ∈ gt := gt_of (List.mem_of_getElem? (i := 350) (by decide +kernel)) (by decide +kernel)
theorem mw_352 : Cond.instanceMethod (⟨"GrindingCircuit$Simulation", "nextEvent", "()I"⟩ : MethodName) ∈ gt := gt_of (List.mem_of_getElem? (i := 352) (by decide +kernel)) (by decide +kernel)
theorem mw_353 : Cond.code (⟨"GrindingCircuit$Simulation", "nextEvent", "()I"⟩ : MethodName) prog_5_method_10_code (4 : Nat) (Option.some FieldType.int) ∈ gt := gt_of (List.mem_of_getElem? (i := 353) (by decide +kernel)) (by decide +kernel)
theorem mw_354 : Cond.constant "GrindingCircuit$Simulation" (87 : Nat) (2147483647 : Int32) ∈ gt := gt_of (List.mem_of_getElem? (i := 354) (by decide +kernel)) (by decide +kernel)
theorem mw_355 : Cond.methodLink "GrindingCircuit$Simulation" (88 : Nat) (⟨"java/lang/Math", "min", "(II)I"⟩ : MethodName) ∈ gt := gt_of (List.mem_of_getElem? (i := 355) (by decide +kernel)) (by decide +kernel)
theorem mw_356 : Cond.static (⟨"java/lang/Math", "min", "(II)I"⟩ : MethodName) ∈ gt := gt_of (List.mem_of_getElem? (i := 356) (by decide +kernel)) (by decide +kernel)
theorem mw_357 : Cond.code (⟨"java/lang/Math", "min", "(II)I"⟩ : MethodName) prog_9_method_69_code (2 : Nat) (Option.some FieldType.int) ∈ gt := gt_of (List.mem_of_getElem? (i := 357) (by decide +kernel)) (by decide +kernel)
theorem mw_358 : Cond.methodLink "GrindingCircuit$Simulation" (73 : Nat) (⟨"GrindingCircuit$Simulation", "finishIfDue", "(LGrindingCircuit$Settings;)V"⟩ : MethodName) ∈ gt := gt_of (List.mem_of_getElem? (i := 358) (by decide +kernel)) (by decide +kernel)
theorem mw_360 : Cond.instanceMethod (⟨"GrindingCircuit$Simulation", "finishIfDue", "(LGrindingCircuit$Settings;)V"⟩ : MethodName) ∈ gt := gt_of (List.mem_of_getElem? (i := 360) (by decide +kernel)) (by decide +kernel)
theorem mw_361 : Cond.code (⟨"GrindingCircuit$Simulation", "finishIfDue", "(LGrindingCircuit$Settings;)V"⟩ : MethodName) prog_5_method_11_code (4 : Nat) (Option.none : Option FieldType) ∈ gt := gt_of (List.mem_of_getElem? (i := 361) (by decide +kernel)) (by decide +kernel)
theorem mw_362 : Cond.methodLink "GrindingCircuit$Simulation" (99 : Nat) (⟨"GrindingCircuit$Lot", "energyToGrind", "([I)I"⟩ : MethodName) ∈ gt := gt_of (List.mem_of_getElem? (i := 362) (by decide +kernel)) (by decide +kernel)
theorem mw_363 : Cond.instanceMethod (⟨"GrindingCircuit$Lot", "energyToGrind", "([I)I"⟩ : MethodName) ∈ gt := gt_of (List.mem_of_getElem? (i := 363) (by decide +kernel)) (by decide +kernel)
theorem mw_364 : Cond.selects "GrindingCircuit$Lot" (⟨"GrindingCircuit$Lot", "energyToGrind", "([I)I"⟩ : MethodName) (⟨"GrindingCircuit$Lot", "energyToGrind", "([I)I"⟩ : MethodName) ∈ gt := gt_of (List.mem_of_getElem? (i := 364) (by decide +kernel)) (by decide +kernel)
theorem mw_365 : Cond.code (⟨"GrindingCircuit$Lot", "energyToGrind", "([I)I"⟩ : MethodName) prog_2_method_5_code (4 : Nat) (Option.some FieldType.int) ∈ gt := gt_of (List.mem_of_getElem? (i := 365) (by decide +kernel)) (by decide +kernel)
theorem mw_366 : Cond.methodLink "GrindingCircuit$Simulation" (107 : Nat) (⟨"GrindingCircuit$Lot", "breakOre", "([[I)V"⟩ : MethodName) ∈ gt := gt_of (List.mem_of_getElem? (i := 366) (by decide +kernel)) (by decide +kernel)
theorem mw_367 : Cond.instanceMethod (⟨"GrindingCircuit$Lot", "breakOre", "([[I)V"⟩ : MethodName) ∈ gt := gt_of (List.mem_of_getElem? (i := 367) (by decide +kernel)) (by decide +kernel)
theorem mw_368 : Cond.selects "GrindingCircuit$Lot" (⟨"GrindingCircuit$Lot", "breakOre", "([[I)V"⟩ : MethodName) (⟨"GrindingCircuit$Lot", "breakOre", "([[I)V"⟩ : MethodName) ∈ gt := gt_of (List.mem_of_getElem? (i := 368) (by decide +kernel)) (by decide +kernel)
theorem mw_369 : Cond.code (⟨"GrindingCircuit$Lot", "breakOre", "([[I)V"⟩ : MethodName) prog_2_method_6_code (6 : Nat) (Option.none : Option FieldType) ∈ gt := gt_of (List.mem_of_getElem? (i := 369) (by decide +kernel)) (by decide +kernel)
theorem mw_370 : Cond.methodLink "GrindingCircuit$Simulation" (114 : Nat) (⟨"GrindingCircuit$Lot", "classify", "([I[I)V"⟩ : MethodName) ∈ gt := gt_of (List.mem_of_getElem? (i := 370) (by decide +kernel)) (by decide +kernel)
theorem mw_371 : Cond.instanceMethod (⟨"GrindingCircuit$Lot", "classify", "([I[I)V"⟩ : MethodName) ∈ gt := gt_of (List.mem_of_getElem? (i := 371) (by decide +kernel)) (by decide +kernel)
theorem mw_372 : Cond.selects "GrindingCircuit$Lot" (⟨"GrindingCircuit$Lot", "classify", "([I[I)V"⟩ : MethodName) (⟨"GrindingCircuit$Lot", "classify", "([I[I)V"⟩ : MethodName) ∈ gt := gt_of (List.mem_of_getElem? (i := 372) (by decide +kernel)) (by decide +kernel)
theorem mw_373 : Cond.code (⟨"GrindingCircuit$Lot", "classify", "([I[I)V"⟩ : MethodName) prog_2_method_7_code (5 : Nat) (Option.none : Option FieldType) ∈ gt := gt_of (List.mem_of_getElem? (i := 373) (by decide +kernel)) (by decide +kernel)
theorem mw_374 : Cond.methodLink "GrindingCircuit$Simulation" (121 : Nat) (⟨"GrindingCircuit$Simulation", "putIntoBin", "(LGrindingCircuit$Lot;)V"⟩ : MethodName) ∈ gt := gt_of (List.mem_of_getElem? (i := 374) (by decide +kernel)) (by decide +kernel)
theorem mw_375 : Cond.methodLink "GrindingCircuit$Simulation" (77 : Nat) (⟨"GrindingCircuit$Simulation", "takePlannedLots", "()V"⟩ : MethodName) ∈ gt := gt_of (List.mem_of_getElem? (i := 375) (by decide +kernel)) (by decide +kernel)
theorem mw_377 : Cond.instanceMethod (⟨"GrindingCircuit$Simulation", "takePlannedLots", "()V"⟩ : MethodName) ∈ gt := gt_of (List.mem_of_getElem? (i := 377) (by decide +kernel)) (by decide +kernel)
theorem mw_378 : Cond.code (⟨"GrindingCircuit$Simulation", "takePlannedLots", "()V"⟩ : MethodName) prog_5_method_12_code (3 : Nat) (Option.none : Option FieldType) ∈ gt := gt_of (List.mem_of_getElem? (i := 378) (by decide +kernel)) (by decide +kernel)
theorem mw_379 : Cond.methodLink "GrindingCircuit$Simulation" (80 : Nat) (⟨"GrindingCircuit$Simulation", "startIfIdle", "(LGrindingCircuit$Settings;)V"⟩ : MethodName) ∈ gt := gt_of (List.mem_of_getElem? (i := 379) (by decide +kernel)) (by decide +kernel)
theorem mw_380 : Cond.methodLink "GrindingCircuitLaw" (75 : Nat) (⟨"GrindingCircuit", "setRate", "(I)I"⟩ : MethodName) ∈ gt := gt_of (List.mem_of_getElem? (i := 380) (by decide +kernel)) (by decide +kernel)
theorem mw_381 : Cond.instanceMethod (⟨"GrindingCircuit", "setRate", "(I)I"⟩ : MethodName) ∈ gt := gt_of (List.mem_of_getElem? (i := 381) (by decide +kernel)) (by decide +kernel)
theorem mw_382 : Cond.selects "GrindingCircuit" (⟨"GrindingCircuit", "setRate", "(I)I"⟩ : MethodName) (⟨"GrindingCircuit", "setRate", "(I)I"⟩ : MethodName) ∈ gt := gt_of (List.mem_of_getElem? (i := 382) (by decide +kernel)) (by decide +kernel)
theorem mw_383 : Cond.code (⟨"GrindingCircuit", "setRate", "(I)I"⟩ : MethodName) prog_1_method_16_code (3 : Nat) (Option.some FieldType.int) ∈ gt := gt_of (List.mem_of_getElem? (i := 383) (by decide +kernel)) (by decide +kernel)
theorem mw_384 : Cond.methodLink "GrindingCircuitLaw" (79 : Nat) (⟨"GrindingCircuit", "setRule", "(I)I"⟩ : MethodName) ∈ gt := gt_of (List.mem_of_getElem? (i := 384) (by decide +kernel)) (by decide +kernel)
theorem mw_385 : Cond.instanceMethod (⟨"GrindingCircuit", "setRule", "(I)I"⟩ : MethodName) ∈ gt := gt_of (List.mem_of_getElem? (i := 385) (by decide +kernel)) (by decide +kernel)
theorem mw_386 : Cond.selects "GrindingCircuit" (⟨"GrindingCircuit", "setRule", "(I)I"⟩ : MethodName) (⟨"GrindingCircuit", "setRule", "(I)I"⟩ : MethodName) ∈ gt := gt_of (List.mem_of_getElem? (i := 386) (by decide +kernel)) (by decide +kernel)
theorem mw_387 : Cond.code (⟨"GrindingCircuit", "setRule", "(I)I"⟩ : MethodName) prog_1_method_17_code (3 : Nat) (Option.some FieldType.int) ∈ gt := gt_of (List.mem_of_getElem? (i := 387) (by decide +kernel)) (by decide +kernel)
theorem mw_388 : Cond.methodLink "GrindingCircuitLaw" (83 : Nat) (⟨"GrindingCircuit", "bin", "(I)I"⟩ : MethodName) ∈ gt := gt_of (List.mem_of_getElem? (i := 388) (by decide +kernel)) (by decide +kernel)
theorem mw_389 : Cond.instanceMethod (⟨"GrindingCircuit", "bin", "(I)I"⟩ : MethodName) ∈ gt := gt_of (List.mem_of_getElem? (i := 389) (by decide +kernel)) (by decide +kernel)
theorem mw_390 : Cond.selects "GrindingCircuit" (⟨"GrindingCircuit", "bin", "(I)I"⟩ : MethodName) (⟨"GrindingCircuit", "bin", "(I)I"⟩ : MethodName) ∈ gt := gt_of (List.mem_of_getElem? (i := 390) (by decide +kernel)) (by decide +kernel)
theorem mw_391 : Cond.code (⟨"GrindingCircuit", "bin", "(I)I"⟩ : MethodName) prog_1_method_18_code (3 : Nat) (Option.some FieldType.int) ∈ gt := gt_of (List.mem_of_getElem? (i := 391) (by decide +kernel)) (by decide +kernel)
theorem mw_392 : Cond.methodLink "GrindingCircuit" (173 : Nat) (⟨"GrindingCircuit$Simulation", "countBin", "()I"⟩ : MethodName) ∈ gt := gt_of (List.mem_of_getElem? (i := 392) (by decide +kernel)) (by decide +kernel)
theorem mw_393 : Cond.instanceMethod (⟨"GrindingCircuit$Simulation", "countBin", "()I"⟩ : MethodName) ∈ gt := gt_of (List.mem_of_getElem? (i := 393) (by decide +kernel)) (by decide +kernel)
theorem mw_394 : Cond.selects "GrindingCircuit$Simulation" (⟨"GrindingCircuit$Simulation", "countBin", "()I"⟩ : MethodName) (⟨"GrindingCircuit$Simulation", "countBin", "()I"⟩ : MethodName) ∈ gt := gt_of (List.mem_of_getElem? (i := 394) (by decide +kernel)) (by decide +kernel)
theorem mw_395 : Cond.code (⟨"GrindingCircuit$Simulation", "countBin", "()I"⟩ : MethodName) prog_5_method_14_code (3 : Nat) (Option.some FieldType.int) ∈ gt := gt_of (List.mem_of_getElem? (i := 395) (by decide +kernel)) (by decide +kernel)
theorem mw_396 : Cond.methodLink "GrindingCircuit" (177 : Nat) (⟨"GrindingCircuit$Simulation", "lotAt", "(II)I"⟩ : MethodName) ∈ gt := gt_of (List.mem_of_getElem? (i := 396) (by decide +kernel)) (by decide +kernel)
theorem mw_397 : Cond.instanceMethod (⟨"GrindingCircuit$Simulation", "lotAt", "(II)I"⟩ : MethodName) ∈ gt := gt_of (List.mem_of_getElem? (i := 397) (by decide +kernel)) (by decide +kernel)
theorem mw_398 : Cond.selects "GrindingCircuit$Simulation" (⟨"GrindingCircuit$Simulation", "lotAt", "(II)I"⟩ : MethodName) (⟨"GrindingCircuit$Simulation", "lotAt", "(II)I"⟩ : MethodName) ∈ gt := gt_of (List.mem_of_getElem? (i := 398) (by decide +kernel)) (by decide +kernel)
theorem mw_399 : Cond.code (⟨"GrindingCircuit$Simulation", "lotAt", "(II)I"⟩ : MethodName) prog_5_method_16_code (5 : Nat) (Option.some FieldType.int) ∈ gt := gt_of (List.mem_of_getElem? (i := 399) (by decide +kernel)) (by decide +kernel)
theorem mw_400 : Cond.methodLink "GrindingCircuit$Simulation" (138 : Nat) (⟨"GrindingCircuit$Simulation", "countBefore", "(LGrindingCircuit$Lot;I)I"⟩ : MethodName) ∈ gt := gt_of (List.mem_of_getElem? (i := 400) (by decide +kernel)) (by decide +kernel)
theorem mw_402 : Cond.instanceMethod (⟨"GrindingCircuit$Simulation", "countBefore", "(LGrindingCircuit$Lot;I)I"⟩ : MethodName) ∈ gt := gt_of (List.mem_of_getElem? (i := 402) (by decide +kernel)) (by decide +kernel)
theorem mw_403 : Cond.code (⟨"GrindingCircuit$Simulation", "countBefore", "(LGrindingCircuit$Lot;I)I"⟩ : MethodName) prog_5_method_17_code (6 : Nat) (Option.some FieldType.int) ∈ gt := gt_of (List.mem_of_getElem? (i := 403) (by decide +kernel)) (by decide +kernel)
theorem mw_404 : Cond.methodLink "GrindingCircuitLaw" (87 : Nat) (⟨"GrindingCircuit", "mill", "(I)I"⟩ : MethodName) ∈ gt := gt_of (List.mem_of_getElem? (i := 404) (by decide +kernel)) (by decide +kernel)
theorem mw_405 : Cond.instanceMethod (⟨"GrindingCircuit", "mill", "(I)I"⟩ : MethodName) ∈ gt := gt_of (List.mem_of_getElem? (i := 405) (by decide +kernel)) (by decide +kernel)
theorem mw_406 : Cond.selects "GrindingCircuit" (⟨"GrindingCircuit", "mill", "(I)I"⟩ : MethodName) (⟨"GrindingCircuit", "mill", "(I)I"⟩ : MethodName) ∈ gt := gt_of (List.mem_of_getElem? (i := 406) (by decide +kernel)) (by decide +kernel)
theorem mw_407 : Cond.code (⟨"GrindingCircuit", "mill", "(I)I"⟩ : MethodName) prog_1_method_19_code (3 : Nat) (Option.some FieldType.int) ∈ gt := gt_of (List.mem_of_getElem? (i := 407) (by decide +kernel)) (by decide +kernel)
theorem mw_408 : Cond.methodLink "GrindingCircuit" (181 : Nat) (⟨"GrindingCircuit$Simulation", "isIdle", "()Z"⟩ : MethodName) ∈ gt := gt_of (List.mem_of_getElem? (i := 408) (by decide +kernel)) (by decide +kernel)
theorem mw_409 : Cond.methodLink "GrindingCircuitLaw" (91 : Nat) (⟨"GrindingCircuit", "state", "(I)I"⟩ : MethodName) ∈ gt := gt_of (List.mem_of_getElem? (i := 409) (by decide +kernel)) (by decide +kernel)
theorem mw_410 : Cond.instanceMethod (⟨"GrindingCircuit", "state", "(I)I"⟩ : MethodName) ∈ gt := gt_of (List.mem_of_getElem? (i := 410) (by decide +kernel)) (by decide +kernel)
theorem mw_411 : Cond.selects "GrindingCircuit" (⟨"GrindingCircuit", "state", "(I)I"⟩ : MethodName) (⟨"GrindingCircuit", "state", "(I)I"⟩ : MethodName) ∈ gt := gt_of (List.mem_of_getElem? (i := 411) (by decide +kernel)) (by decide +kernel)
theorem mw_412 : Cond.code (⟨"GrindingCircuit", "state", "(I)I"⟩ : MethodName) prog_1_method_20_code (2 : Nat) (Option.some FieldType.int) ∈ gt := gt_of (List.mem_of_getElem? (i := 412) (by decide +kernel)) (by decide +kernel)
theorem mw_413 : Cond.methodLink "GrindingCircuit" (190 : Nat) (⟨"GrindingCircuit$Simulation", "hasLot", "(I)Z"⟩ : MethodName) ∈ gt := gt_of (List.mem_of_getElem? (i := 413) (by decide +kernel)) (by decide +kernel)
theorem mw_414 : Cond.instanceMethod (⟨"GrindingCircuit$Simulation", "hasLot", "(I)Z"⟩ : MethodName) ∈ gt := gt_of (List.mem_of_getElem? (i := 414) (by decide +kernel)) (by decide +kernel)
theorem mw_415 : Cond.selects "GrindingCircuit$Simulation" (⟨"GrindingCircuit$Simulation", "hasLot", "(I)Z"⟩ : MethodName) (⟨"GrindingCircuit$Simulation", "hasLot", "(I)Z"⟩ : MethodName) ∈ gt := gt_of (List.mem_of_getElem? (i := 415) (by decide +kernel)) (by decide +kernel)
theorem mw_416 : Cond.code (⟨"GrindingCircuit$Simulation", "hasLot", "(I)Z"⟩ : MethodName) prog_5_method_5_code (2 : Nat) (Option.some FieldType.boolean) ∈ gt := gt_of (List.mem_of_getElem? (i := 416) (by decide +kernel)) (by decide +kernel)
theorem mw_417 : Cond.methodLink "GrindingCircuitLaw" (95 : Nat) (⟨"GrindingCircuit", "mass", "(II)I"⟩ : MethodName) ∈ gt := gt_of (List.mem_of_getElem? (i := 417) (by decide +kernel)) (by decide +kernel)
theorem mw_418 : Cond.instanceMethod (⟨"GrindingCircuit", "mass", "(II)I"⟩ : MethodName) ∈ gt := gt_of (List.mem_of_getElem? (i := 418) (by decide +kernel)) (by decide +kernel)
theorem mw_419 : Cond.selects "GrindingCircuit" (⟨"GrindingCircuit", "mass", "(II)I"⟩ : MethodName) (⟨"GrindingCircuit", "mass", "(II)I"⟩ : MethodName) ∈ gt := gt_of (List.mem_of_getElem? (i := 419) (by decide +kernel)) (by decide +kernel)
theorem mw_420 : Cond.code (⟨"GrindingCircuit", "mass", "(II)I"⟩ : MethodName) prog_1_method_21_code (3 : Nat) (Option.some FieldType.int) ∈ gt := gt_of (List.mem_of_getElem? (i := 420) (by decide +kernel)) (by decide +kernel)
theorem mw_421 : Cond.methodLink "GrindingCircuit" (201 : Nat) (⟨"GrindingCircuit", "sizeOrAll", "([II)I"⟩ : MethodName) ∈ gt := gt_of (List.mem_of_getElem? (i := 421) (by decide +kernel)) (by decide +kernel)
theorem mw_422 : Cond.static (⟨"GrindingCircuit", "sizeOrAll", "([II)I"⟩ : MethodName) ∈ gt := gt_of (List.mem_of_getElem? (i := 422) (by decide +kernel)) (by decide +kernel)
theorem mw_423 : Cond.code (⟨"GrindingCircuit", "sizeOrAll", "([II)I"⟩ : MethodName) prog_1_method_35_code (2 : Nat) (Option.some FieldType.int) ∈ gt := gt_of (List.mem_of_getElem? (i := 423) (by decide +kernel)) (by decide +kernel)
theorem mw_424 : Cond.methodLink "GrindingCircuitLaw" (99 : Nat) (⟨"GrindingCircuit", "passes", "(I)I"⟩ : MethodName) ∈ gt := gt_of (List.mem_of_getElem? (i := 424) (by decide +kernel)) (by decide +kernel)
theorem mw_425 : Cond.instanceMethod (⟨"GrindingCircuit", "passes", "(I)I"⟩ : MethodName) ∈ gt := gt_of (List.mem_of_getElem? (i := 425) (by decide +kernel)) (by decide +kernel)
theorem mw_426 : Cond.selects "GrindingCircuit" (⟨"GrindingCircuit", "passes", "(I)I"⟩ : MethodName) (⟨"GrindingCircuit", "passes", "(I)I"⟩ : MethodName) ∈ gt := gt_of (List.mem_of_getElem? (i := 426) (by decide +kernel)) (by decide +kernel)
theorem mw_427 : Cond.code (⟨"GrindingCircuit", "passes", "(I)I"⟩ : MethodName) prog_1_method_22_code (2 : Nat) (Option.some FieldType.int) ∈ gt := gt_of (List.mem_of_getElem? (i := 427) (by decide +kernel)) (by decide +kernel)
theorem mw_428 : Cond.methodLink "GrindingCircuitLaw" (103 : Nat) (⟨"GrindingCircuit", "produced", "(I)I"⟩ : MethodName) ∈ gt := gt_of (List.mem_of_getElem? (i := 428) (by decide +kernel)) (by decide +kernel)
theorem mw_429 : Cond.instanceMethod (⟨"GrindingCircuit", "produced", "(I)I"⟩ : MethodName) ∈ gt := gt_of (List.mem_of_getElem? (i := 429) (by decide +kernel)) (by decide +kernel)
theorem mw_430 : Cond.selects "GrindingCircuit" (⟨"GrindingCircuit", "produced", "(I)I"⟩ : MethodName) (⟨"GrindingCircuit", "produced", "(I)I"⟩ : MethodName) ∈ gt := gt_of (List.mem_of_getElem? (i := 430) (by decide +kernel)) (by decide +kernel)
theorem mw_431 : Cond.code (⟨"GrindingCircuit", "produced", "(I)I"⟩ : MethodName) prog_1_method_23_code (2 : Nat) (Option.some FieldType.int) ∈ gt := gt_of (List.mem_of_getElem? (i := 431) (by decide +kernel)) (by decide +kernel)
theorem mw_432 : Cond.methodLink "GrindingCircuitLaw" (107 : Nat) (⟨"GrindingCircuit", "total", "(I)I"⟩ : MethodName) ∈ gt := gt_of (List.mem_of_getElem? (i := 432) (by decide +kernel)) (by decide +kernel)
theorem mw_433 : Cond.instanceMethod (⟨"GrindingCircuit", "total", "(I)I"⟩ : MethodName) ∈ gt := gt_of (List.mem_of_getElem? (i := 433) (by decide +kernel)) (by decide +kernel)
theorem mw_434 : Cond.selects "GrindingCircuit" (⟨"GrindingCircuit", "total", "(I)I"⟩ : MethodName) (⟨"GrindingCircuit", "total", "(I)I"⟩ : MethodName) ∈ gt := gt_of (List.mem_of_getElem? (i := 434) (by decide +kernel)) (by decide +kernel)
theorem mw_435 : Cond.code (⟨"GrindingCircuit", "total", "(I)I"⟩ : MethodName) prog_1_method_24_code (3 : Nat) (Option.some FieldType.int) ∈ gt := gt_of (List.mem_of_getElem? (i := 435) (by decide +kernel)) (by decide +kernel)
theorem mw_436 : Cond.methodLink "GrindingCircuitLaw" (111 : Nat) (⟨"GrindingCircuit", "save", "(I)I"⟩ : MethodName) ∈ gt := gt_of (List.mem_of_getElem? (i := 436) (by decide +kernel)) (by decide +kernel)
theorem mw_437 : Cond.instanceMethod (⟨"GrindingCircuit", "save", "(I)I"⟩ : MethodName) ∈ gt := gt_of (List.mem_of_getElem? (i := 437) (by decide +kernel)) (by decide +kernel)
theorem mw_438 : Cond.selects "GrindingCircuit" (⟨"GrindingCircuit", "save", "(I)I"⟩ : MethodName) (⟨"GrindingCircuit", "save", "(I)I"⟩ : MethodName) ∈ gt := gt_of (List.mem_of_getElem? (i := 438) (by decide +kernel)) (by decide +kernel)
theorem mw_439 : Cond.code (⟨"GrindingCircuit", "save", "(I)I"⟩ : MethodName) prog_1_method_25_code (2 : Nat) (Option.some FieldType.int) ∈ gt := gt_of (List.mem_of_getElem? (i := 439) (by decide +kernel)) (by decide +kernel)
theorem mw_440 : Cond.methodLink "GrindingCircuit" (220 : Nat) (⟨"GrindingCircuit", "isSlot", "(I)Z"⟩ : MethodName) ∈ gt := gt_of (List.mem_of_getElem? (i := 440) (by decide +kernel)) (by decide +kernel)
theorem mw_441 : Cond.static (⟨"GrindingCircuit", "isSlot", "(I)Z"⟩ : MethodName) ∈ gt := gt_of (List.mem_of_getElem? (i := 441) (by decide +kernel)) (by decide +kernel)
theorem mw_442 : Cond.code (⟨"GrindingCircuit", "isSlot", "(I)Z"⟩ : MethodName) prog_1_method_30_code (1 : Nat) (Option.some FieldType.boolean) ∈ gt := gt_of (List.mem_of_getElem? (i := 442) (by decide +kernel)) (by decide +kernel)
theorem mw_443 : Cond.methodLink "GrindingCircuit" (223 : Nat) (⟨"GrindingCircuit$Plant", "copyFrom", "(LGrindingCircuit$Plant;)V"⟩ : MethodName) ∈ gt := gt_of (List.mem_of_getElem? (i := 443) (by decide +kernel)) (by decide +kernel)
theorem mw_444 : Cond.instanceMethod (⟨"GrindingCircuit$Plant", "copyFrom", "(LGrindingCircuit$Plant;)V"⟩ : MethodName) ∈ gt := gt_of (List.mem_of_getElem? (i := 444) (by decide +kernel)) (by decide +kernel)
theorem mw_445 : Cond.selects "GrindingCircuit$Plant" (⟨"GrindingCircuit$Plant", "copyFrom", "(LGrindingCircuit$Plant;)V"⟩ : MethodName) (⟨"GrindingCircuit$Plant", "copyFrom", "(LGrindingCircuit$Plant;)V"⟩ : MethodName) ∈ gt := gt_of (List.mem_of_getElem? (i := 445) (by decide +kernel)) (by decide +kernel)
theorem mw_446 : Cond.code (⟨"GrindingCircuit$Plant", "copyFrom", "(LGrindingCircuit$Plant;)V"⟩ : MethodName) prog_3_method_2_code (2 : Nat) (Option.none : Option FieldType) ∈ gt := gt_of (List.mem_of_getElem? (i := 446) (by decide +kernel)) (by decide +kernel)
theorem mw_447 : Cond.methodLink "GrindingCircuit$Plant" (23 : Nat) (⟨"GrindingCircuit$Settings", "copyFrom", "(LGrindingCircuit$Settings;)V"⟩ : MethodName) ∈ gt := gt_of (List.mem_of_getElem? (i := 447) (by decide +kernel)) (by decide +kernel)
theorem mw_448 : Cond.instanceMethod (⟨"GrindingCircuit$Settings", "copyFrom", "(LGrindingCircuit$Settings;)V"⟩ : MethodName) ∈ gt := gt_of (List.mem_of_getElem? (i := 448) (by decide +kernel)) (by decide +kernel)
theorem mw_449 : Cond.selects "GrindingCircuit$Settings" (⟨"GrindingCircuit$Settings", "copyFrom", "(LGrindingCircuit$Settings;)V"⟩ : MethodName) (⟨"GrindingCircuit$Settings", "copyFrom", "(LGrindingCircuit$Settings;)V"⟩ : MethodName) ∈ gt := gt_of (List.mem_of_getElem? (i := 449) (by decide +kernel)) (by decide +kernel)
theorem mw_450 : Cond.code (⟨"GrindingCircuit$Settings", "copyFrom", "(LGrindingCircuit$Settings;)V"⟩ : MethodName) prog_4_method_3_code (3 : Nat) (Option.none : Option FieldType) ∈ gt := gt_of (List.mem_of_getElem? (i := 450) (by decide +kernel)) (by decide +kernel)
theorem mw_451 : Cond.methodLink "GrindingCircuit$Settings" (37 : Nat) (⟨"java/lang/System", "arraycopy", "(Ljava/lang/Object;ILjava/lang/Object;II)V"⟩ : MethodName) ∈ gt := gt_of (List.mem_of_getElem? (i := 451) (by decide +kernel)) (by decide +kernel)
theorem mw_452 : Cond.static (⟨"java/lang/System", "arraycopy", "(Ljava/lang/Object;ILjava/lang/Object;II)V"⟩ : MethodName) ∈ gt := gt_of (List.mem_of_getElem? (i := 452) (by decide +kernel)) (by decide +kernel)
theorem mw_453 : Cond.native (⟨"java/lang/System", "arraycopy", "(Ljava/lang/Object;ILjava/lang/Object;II)V"⟩ : MethodName) ∈ gt := gt_of (List.mem_of_getElem? (i := 453) (by decide +kernel)) (by decide +kernel)
theorem mw_454 : Cond.methodLink "GrindingCircuit$Plant" (27 : Nat) (⟨"GrindingCircuit$Simulation", "copyFrom", "(LGrindingCircuit$Simulation;)V"⟩ : MethodName) ∈ gt := gt_of (List.mem_of_getElem? (i := 454) (by decide +kernel)) (by decide +kernel)
theorem mw_455 : Cond.instanceMethod (⟨"GrindingCircuit$Simulation", "copyFrom", "(LGrindingCircuit$Simulation;)V"⟩ : MethodName) ∈ gt := gt_of (List.mem_of_getElem? (i := 455) (by decide +kernel)) (by decide +kernel)
theorem mw_456 : Cond.selects "GrindingCircuit$Simulation" (⟨"GrindingCircuit$Simulation", "copyFrom", "(LGrindingCircuit$Simulation;)V"⟩ : MethodName) (⟨"GrindingCircuit$Simulation", "copyFrom", "(LGrindingCircuit$Simulation;)V"⟩ : MethodName) ∈ gt := gt_of (List.mem_of_getElem? (i := 456) (by decide +kernel)) (by decide +kernel)
theorem mw_457 : Cond.code (⟨"GrindingCircuit$Simulation", "copyFrom", "(LGrindingCircuit$Simulation;)V"⟩ : MethodName) prog_5_method_2_code (3 : Nat) (Option.none : Option FieldType) ∈ gt := gt_of (List.mem_of_getElem? (i := 457) (by decide +kernel)) (by decide +kernel)
theorem mw_458 : Cond.methodLink "GrindingCircuit$Simulation" (29 : Nat) (⟨"GrindingCircuit$Lot", "copyFrom", "(LGrindingCircuit$Lot;)V"⟩ : MethodName) ∈ gt := gt_of (List.mem_of_getElem? (i := 458) (by decide +kernel)) (by decide +kernel)
theorem mw_459 : Cond.instanceMethod (⟨"GrindingCircuit$Lot", "copyFrom", "(LGrindingCircuit$Lot;)V"⟩ : MethodName) ∈ gt := gt_of (List.mem_of_getElem? (i := 459) (by decide +kernel)) (by decide +kernel)
theorem mw_460 : Cond.selects "GrindingCircuit$Lot" (⟨"GrindingCircuit$Lot", "copyFrom", "(LGrindingCircuit$Lot;)V"⟩ : MethodName) (⟨"GrindingCircuit$Lot", "copyFrom", "(LGrindingCircuit$Lot;)V"⟩ : MethodName) ∈ gt := gt_of (List.mem_of_getElem? (i := 460) (by decide +kernel)) (by decide +kernel)
theorem mw_461 : Cond.code (⟨"GrindingCircuit$Lot", "copyFrom", "(LGrindingCircuit$Lot;)V"⟩ : MethodName) prog_2_method_2_code (2 : Nat) (Option.none : Option FieldType) ∈ gt := gt_of (List.mem_of_getElem? (i := 461) (by decide +kernel)) (by decide +kernel)
theorem mw_462 : Cond.methodLink "GrindingCircuit$Lot" (15 : Nat) (⟨"java/lang/System", "arraycopy", "(Ljava/lang/Object;ILjava/lang/Object;II)V"⟩ : MethodName) ∈ gt := gt_of (List.mem_of_getElem? (i := 462) (by decide +kernel)) (by decide +kernel)
theorem mw_463 : Cond.methodLink "GrindingCircuit$Simulation" (33 : Nat) (⟨"java/lang/System", "arraycopy", "(Ljava/lang/Object;ILjava/lang/Object;II)V"⟩ : MethodName) ∈ gt := gt_of (List.mem_of_getElem? (i := 463) (by decide +kernel)) (by decide +kernel)
theorem mw_464 : Cond.methodLink "GrindingCircuitLaw" (115 : Nat) (⟨"GrindingCircuit", "restore", "(I)I"⟩ : MethodName) ∈ gt := gt_of (List.mem_of_getElem? (i := 464) (by decide +kernel)) (by decide +kernel)
theorem mw_465 : Cond.instanceMethod (⟨"GrindingCircuit", "restore", "(I)I"⟩ : MethodName) ∈ gt := gt_of (List.mem_of_getElem? (i := 465) (by decide +kernel)) (by decide +kernel)
theorem mw_466 : Cond.selects "GrindingCircuit" (⟨"GrindingCircuit", "restore", "(I)I"⟩ : MethodName) (⟨"GrindingCircuit", "restore", "(I)I"⟩ : MethodName) ∈ gt := gt_of (List.mem_of_getElem? (i := 466) (by decide +kernel)) (by decide +kernel)
theorem mw_467 : Cond.code (⟨"GrindingCircuit", "restore", "(I)I"⟩ : MethodName) prog_1_method_26_code (2 : Nat) (Option.some FieldType.int) ∈ gt := gt_of (List.mem_of_getElem? (i := 467) (by decide +kernel)) (by decide +kernel)
theorem mw_468 : Cond.classLink "GrindingCircuitLaw" (10 : Nat) "GrindingCircuitModel" ∈ gt := gt_of (List.mem_of_getElem? (i := 468) (by decide +kernel)) (by decide +kernel)
theorem mw_469 : Cond.instantiable "GrindingCircuitModel" (7 : Nat) ∈ gt := gt_of (List.mem_of_getElem? (i := 469) (by decide +kernel)) (by decide +kernel)
theorem mw_470 : Cond.methodLink "GrindingCircuitLaw" (12 : Nat) (⟨"GrindingCircuitModel", "<init>", "()V"⟩ : MethodName) ∈ gt := gt_of (List.mem_of_getElem? (i := 470) (by decide +kernel)) (by decide +kernel)
theorem mw_471 : Cond.instanceMethod (⟨"GrindingCircuitModel", "<init>", "()V"⟩ : MethodName) ∈ gt := gt_of (List.mem_of_getElem? (i := 471) (by decide +kernel)) (by decide +kernel)
theorem mw_472 : Cond.code (⟨"GrindingCircuitModel", "<init>", "()V"⟩ : MethodName) prog_8_method_1_code (2 : Nat) (Option.none : Option FieldType) ∈ gt := gt_of (List.mem_of_getElem? (i := 472) (by decide +kernel)) (by decide +kernel)
theorem mw_473 : Cond.methodLink "GrindingCircuitModel" (1 : Nat) (⟨"java/lang/Object", "<init>", "()V"⟩ : MethodName) ∈ gt := gt_of (List.mem_of_getElem? (i := 473) (by decide +kernel)) (by decide +kernel)
theorem mw_474 : Cond.fieldLink "GrindingCircuitModel" (7 : Nat) "GrindingCircuitModel" "at" "[I" ∈ gt := gt_of (List.mem_of_getElem? (i := 474) (by decide +kernel)) (by decide +kernel)
theorem mw_475 : Cond.fieldLink "GrindingCircuitModel" (13 : Nat) "GrindingCircuitModel" "slots" "[I" ∈ gt := gt_of (List.mem_of_getElem? (i := 475) (by decide +kernel)) (by decide +kernel)
theorem mw_476 : Cond.fieldLink "GrindingCircuitModel" (16 : Nat) "GrindingCircuitModel" "isSaved" "[Z" ∈ gt := gt_of (List.mem_of_getElem? (i := 476) (by decide +kernel)) (by decide +kernel)
theorem mw_477 : Cond.fieldLink "GrindingCircuitModel" (20 : Nat) "GrindingCircuitModel" "returns" "[I" ∈ gt := gt_of (List.mem_of_getElem? (i := 477) (by decide +kernel)) (by decide +kernel)
theorem mw_478 : Cond.fieldLink "GrindingCircuitModel" (23 : Nat) "GrindingCircuitModel" "loads" "[J" ∈ gt := gt_of (List.mem_of_getElem? (i := 478) (by decide +kernel)) (by decide +kernel)
theorem mw_479 : Cond.fieldLink "GrindingCircuitModel" (45 : Nat) "GrindingCircuitModel" "below" "J" ∈ gt := gt_of (List.mem_of_getElem? (i := 479) (by decide +kernel)) (by decide +kernel)
theorem mw_480 : Cond.fieldLink "GrindingCircuitModel" (27 : Nat) "GrindingCircuitModel" "fresh" "[I" ∈ gt := gt_of (List.mem_of_getElem? (i := 480) (by decide +kernel)) (by decide +kernel)
theorem mw_481 : Cond.laysFinal "GrindingCircuitModel" "GrindingCircuitModel" "at" "[I" ∈ gt := gt_of (List.mem_of_getElem? (i := 481) (by decide +kernel)) (by decide +kernel)
theorem mw_483 : Cond.laysFinal "GrindingCircuitModel" "GrindingCircuitModel" "slots" "[I" ∈ gt := gt_of (List.mem_of_getElem? (i := 483) (by decide +kernel)) (by decide +kernel)
theorem mw_485 : Cond.laysFinal "GrindingCircuitModel" "GrindingCircuitModel" "isSaved" "[Z" ∈ gt := gt_of (List.mem_of_getElem? (i := 485) (by decide +kernel)) (by decide +kernel)
theorem mw_487 : Cond.laysFinal "GrindingCircuitModel" "GrindingCircuitModel" "returns" "[I" ∈ gt := gt_of (List.mem_of_getElem? (i := 487) (by decide +kernel)) (by decide +kernel)
theorem mw_489 : Cond.laysFinal "GrindingCircuitModel" "GrindingCircuitModel" "loads" "[J" ∈ gt := gt_of (List.mem_of_getElem? (i := 489) (by decide +kernel)) (by decide +kernel)
theorem mw_491 : Cond.lays "GrindingCircuitModel" "GrindingCircuitModel" "below" "J" ∈ gt := gt_of (List.mem_of_getElem? (i := 491) (by decide +kernel)) (by decide +kernel)
theorem mw_493 : Cond.laysFinal "GrindingCircuitModel" "GrindingCircuitModel" "fresh" "[I" ∈ gt := gt_of (List.mem_of_getElem? (i := 493) (by decide +kernel)) (by decide +kernel)
theorem mw_496 : Cond.methodLink "GrindingCircuitLaw" (17 : Nat) (⟨"GrindingCircuitModel", "setBreakage", "(IIII)I"⟩ : MethodName) ∈ gt := gt_of (List.mem_of_getElem? (i := 496) (by decide +kernel)) (by decide +kernel)
theorem mw_497 : Cond.instanceMethod (⟨"GrindingCircuitModel", "setBreakage", "(IIII)I"⟩ : MethodName) ∈ gt := gt_of (List.mem_of_getElem? (i := 497) (by decide +kernel)) (by decide +kernel)
theorem mw_498 : Cond.selects "GrindingCircuitModel" (⟨"GrindingCircuitModel", "setBreakage", "(IIII)I"⟩ : MethodName) (⟨"GrindingCircuitModel", "setBreakage", "(IIII)I"⟩ : MethodName) ∈ gt := gt_of (List.mem_of_getElem? (i := 498) (by decide +kernel)) (by decide +kernel)
theorem mw_499 : Cond.code (⟨"GrindingCircuitModel", "setBreakage", "(IIII)I"⟩ : MethodName) prog_8_method_5_code (7 : Nat) (Option.some FieldType.int) ∈ gt := gt_of (List.mem_of_getElem? (i := 499) (by decide +kernel)) (by decide +kernel)
theorem mw_500 : Cond.methodLink "GrindingCircuitModel" (34 : Nat) (⟨"GrindingCircuitModel", "isSize", "(I)Z"⟩ : MethodName) ∈ gt := gt_of (List.mem_of_getElem? (i := 500) (by decide +kernel)) (by decide +kernel)
theorem mw_501 : Cond.static (⟨"GrindingCircuitModel", "isSize", "(I)Z"⟩ : MethodName) ∈ gt := gt_of (List.mem_of_getElem? (i := 501) (by decide +kernel)) (by decide +kernel)
theorem mw_502 : Cond.code (⟨"GrindingCircuitModel", "isSize", "(I)Z"⟩ : MethodName) prog_8_method_3_code (1 : Nat) (Option.some FieldType.boolean) ∈ gt := gt_of (List.mem_of_getElem? (i := 502) (by decide +kernel)) (by decide +kernel)
theorem mw_503 : Cond.methodLink "GrindingCircuitModel" (30 : Nat) (⟨"GrindingCircuitModel", "in", "(III)Z"⟩ : MethodName) ∈ gt := gt_of (List.mem_of_getElem? (i := 503) (by decide +kernel)) (by decide +kernel)
theorem mw_504 : Cond.static (⟨"GrindingCircuitModel", "in", "(III)Z"⟩ : MethodName) ∈ gt := gt_of (List.mem_of_getElem? (i := 504) (by decide +kernel)) (by decide +kernel)
theorem mw_505 : Cond.code (⟨"GrindingCircuitModel", "in", "(III)Z"⟩ : MethodName) prog_8_method_2_code (3 : Nat) (Option.some FieldType.boolean) ∈ gt := gt_of (List.mem_of_getElem? (i := 505) (by decide +kernel)) (by decide +kernel)
theorem mw_506 : Cond.methodLink "GrindingCircuitLaw" (22 : Nat) (⟨"GrindingCircuitModel", "share", "(II)I"⟩ : MethodName) ∈ gt := gt_of (List.mem_of_getElem? (i := 506) (by decide +kernel)) (by decide +kernel)
theorem mw_507 : Cond.instanceMethod (⟨"GrindingCircuitModel", "share", "(II)I"⟩ : MethodName) ∈ gt := gt_of (List.mem_of_getElem? (i := 507) (by decide +kernel)) (by decide +kernel)
theorem mw_508 : Cond.selects "GrindingCircuitModel" (⟨"GrindingCircuitModel", "share", "(II)I"⟩ : MethodName) (⟨"GrindingCircuitModel", "share", "(II)I"⟩ : MethodName) ∈ gt := gt_of (List.mem_of_getElem? (i := 508) (by decide +kernel)) (by decide +kernel)
theorem mw_509 : Cond.code (⟨"GrindingCircuitModel", "share", "(II)I"⟩ : MethodName) prog_8_method_6_code (3 : Nat) (Option.some FieldType.int) ∈ gt := gt_of (List.mem_of_getElem? (i := 509) (by decide +kernel)) (by decide +kernel)
theorem mw_510 : Cond.methodLink "GrindingCircuitModel" (38 : Nat) (⟨"GrindingCircuitModel", "shareOf", "(II)I"⟩ : MethodName) ∈ gt := gt_of (List.mem_of_getElem? (i := 510) (by decide +kernel)) (by decide +kernel)
theorem mw_512 : Cond.instanceMethod (⟨"GrindingCircuitModel", "shareOf", "(II)I"⟩ : MethodName) ∈ gt := gt_of (List.mem_of_getElem? (i := 512) (by decide +kernel)) (by decide +kernel)
theorem mw_513 : Cond.code (⟨"GrindingCircuitModel", "shareOf", "(II)I"⟩ : MethodName) prog_8_method_4_code (3 : Nat) (Option.some FieldType.int) ∈ gt := gt_of (List.mem_of_getElem? (i := 513) (by decide +kernel)) (by decide +kernel)
theorem mw_514 : Cond.methodLink "GrindingCircuitLaw" (26 : Nat) (⟨"GrindingCircuitModel", "setReturn", "(II)I"⟩ : MethodName) ∈ gt := gt_of (List.mem_of_getElem? (i := 514) (by decide +kernel)) (by decide +kernel)
theorem mw_515 : Cond.instanceMethod (⟨"GrindingCircuitModel", "setReturn", "(II)I"⟩ : MethodName) ∈ gt := gt_of (List.mem_of_getElem? (i := 515) (by decide +kernel)) (by decide +kernel)
theorem mw_516 : Cond.selects "GrindingCircuitModel" (⟨"GrindingCircuitModel", "setReturn", "(II)I"⟩ : MethodName) (⟨"GrindingCircuitModel", "setReturn", "(II)I"⟩ : MethodName) ∈ gt := gt_of (List.mem_of_getElem? (i := 516) (by decide +kernel)) (by decide +kernel)
theorem mw_517 : Cond.code (⟨"GrindingCircuitModel", "setReturn", "(II)I"⟩ : MethodName) prog_8_method_8_code (3 : Nat) (Option.some FieldType.int) ∈ gt := gt_of (List.mem_of_getElem? (i := 517) (by decide +kernel)) (by decide +kernel)
theorem mw_518 : Cond.methodLink "GrindingCircuitModel" (42 : Nat) (⟨"GrindingCircuitModel", "set", "(II)I"⟩ : MethodName) ∈ gt := gt_of (List.mem_of_getElem? (i := 518) (by decide +kernel)) (by decide +kernel)
theorem mw_520 : Cond.instanceMethod (⟨"GrindingCircuitModel", "set", "(II)I"⟩ : MethodName) ∈ gt := gt_of (List.mem_of_getElem? (i := 520) (by decide +kernel)) (by decide +kernel)
theorem mw_521 : Cond.code (⟨"GrindingCircuitModel", "set", "(II)I"⟩ : MethodName) prog_8_method_7_code (4 : Nat) (Option.some FieldType.int) ∈ gt := gt_of (List.mem_of_getElem? (i := 521) (by decide +kernel)) (by decide +kernel)
theorem mw_522 : Cond.methodLink "GrindingCircuitLaw" (30 : Nat) (⟨"GrindingCircuitModel", "setWork", "(II)I"⟩ : MethodName) ∈ gt := gt_of (List.mem_of_getElem? (i := 522) (by decide +kernel)) (by decide +kernel)
theorem mw_523 : Cond.instanceMethod (⟨"GrindingCircuitModel", "setWork", "(II)I"⟩ : MethodName) ∈ gt := gt_of (List.mem_of_getElem? (i := 523) (by decide +kernel)) (by decide +kernel)
theorem mw_524 : Cond.selects "GrindingCircuitModel" (⟨"GrindingCircuitModel", "setWork", "(II)I"⟩ : MethodName) (⟨"GrindingCircuitModel", "setWork", "(II)I"⟩ : MethodName) ∈ gt := gt_of (List.mem_of_getElem? (i := 524) (by decide +kernel)) (by decide +kernel)
theorem mw_525 : Cond.code (⟨"GrindingCircuitModel", "setWork", "(II)I"⟩ : MethodName) prog_8_method_9_code (3 : Nat) (Option.some FieldType.int) ∈ gt := gt_of (List.mem_of_getElem? (i := 525) (by decide +kernel)) (by decide +kernel)
theorem mw_526 : Cond.methodLink "GrindingCircuitLaw" (34 : Nat) (⟨"GrindingCircuitModel", "setFeed", "(II)I"⟩ : MethodName) ∈ gt := gt_of (List.mem_of_getElem? (i := 526) (by decide +kernel)) (by decide +kernel)
theorem mw_527 : Cond.instanceMethod (⟨"GrindingCircuitModel", "setFeed", "(II)I"⟩ : MethodName) ∈ gt := gt_of (List.mem_of_getElem? (i := 527) (by decide +kernel)) (by decide +kernel)
theorem mw_528 : Cond.selects "GrindingCircuitModel" (⟨"GrindingCircuitModel", "setFeed", "(II)I"⟩ : MethodName) (⟨"GrindingCircuitModel", "setFeed", "(II)I"⟩ : MethodName) ∈ gt := gt_of (List.mem_of_getElem? (i := 528) (by decide +kernel)) (by decide +kernel)
theorem mw_529 : Cond.code (⟨"GrindingCircuitModel", "setFeed", "(II)I"⟩ : MethodName) prog_8_method_10_code (3 : Nat) (Option.some FieldType.int) ∈ gt := gt_of (List.mem_of_getElem? (i := 529) (by decide +kernel)) (by decide +kernel)
theorem mw_530 : Cond.methodLink "GrindingCircuitLaw" (39 : Nat) (⟨"GrindingCircuitModel", "load", "(II)J"⟩ : MethodName) ∈ gt := gt_of (List.mem_of_getElem? (i := 530) (by decide +kernel)) (by decide +kernel)
theorem mw_531 : Cond.instanceMethod (⟨"GrindingCircuitModel", "load", "(II)J"⟩ : MethodName) ∈ gt := gt_of (List.mem_of_getElem? (i := 531) (by decide +kernel)) (by decide +kernel)
theorem mw_532 : Cond.selects "GrindingCircuitModel" (⟨"GrindingCircuitModel", "load", "(II)J"⟩ : MethodName) (⟨"GrindingCircuitModel", "load", "(II)J"⟩ : MethodName) ∈ gt := gt_of (List.mem_of_getElem? (i := 532) (by decide +kernel)) (by decide +kernel)
theorem mw_533 : Cond.code (⟨"GrindingCircuitModel", "load", "(II)J"⟩ : MethodName) prog_8_method_17_code (4 : Nat) (Option.some FieldType.long) ∈ gt := gt_of (List.mem_of_getElem? (i := 533) (by decide +kernel)) (by decide +kernel)
theorem mw_534 : Cond.methodLink "GrindingCircuitModel" (61 : Nat) (⟨"GrindingCircuitModel", "wrongSteady", "(II)I"⟩ : MethodName) ∈ gt := gt_of (List.mem_of_getElem? (i := 534) (by decide +kernel)) (by decide +kernel)
theorem mw_536 : Cond.instanceMethod (⟨"GrindingCircuitModel", "wrongSteady", "(II)I"⟩ : MethodName) ∈ gt := gt_of (List.mem_of_getElem? (i := 536) (by decide +kernel)) (by decide +kernel)
theorem mw_537 : Cond.code (⟨"GrindingCircuitModel", "wrongSteady", "(II)I"⟩ : MethodName) prog_8_method_16_code (3 : Nat) (Option.some FieldType.int) ∈ gt := gt_of (List.mem_of_getElem? (i := 537) (by decide +kernel)) (by decide +kernel)
theorem mw_538 : Cond.methodLink "GrindingCircuitModel" (51 : Nat) (⟨"GrindingCircuitModel", "isPart", "(I)Z"⟩ : MethodName) ∈ gt := gt_of (List.mem_of_getElem? (i := 538) (by decide +kernel)) (by decide +kernel)
theorem mw_539 : Cond.static (⟨"GrindingCircuitModel", "isPart", "(I)Z"⟩ : MethodName) ∈ gt := gt_of (List.mem_of_getElem? (i := 539) (by decide +kernel)) (by decide +kernel)
theorem mw_540 : Cond.code (⟨"GrindingCircuitModel", "isPart", "(I)Z"⟩ : MethodName) prog_8_method_15_code (1 : Nat) (Option.some FieldType.boolean) ∈ gt := gt_of (List.mem_of_getElem? (i := 540) (by decide +kernel)) (by decide +kernel)
theorem mw_541 : Cond.methodLink "GrindingCircuitModel" (54 : Nat) (⟨"GrindingCircuitModel", "asSet", "()V"⟩ : MethodName) ∈ gt := gt_of (List.mem_of_getElem? (i := 541) (by decide +kernel)) (by decide +kernel)
theorem mw_543 : Cond.instanceMethod (⟨"GrindingCircuitModel", "asSet", "()V"⟩ : MethodName) ∈ gt := gt_of (List.mem_of_getElem? (i := 543) (by decide +kernel)) (by decide +kernel)
theorem mw_544 : Cond.code (⟨"GrindingCircuitModel", "asSet", "()V"⟩ : MethodName) prog_8_method_11_code (2 : Nat) (Option.none : Option FieldType) ∈ gt := gt_of (List.mem_of_getElem? (i := 544) (by decide +kernel)) (by decide +kernel)
theorem mw_545 : Cond.methodLink "GrindingCircuitModel" (57 : Nat) (⟨"GrindingCircuitModel", "layLoads", "()Z"⟩ : MethodName) ∈ gt := gt_of (List.mem_of_getElem? (i := 545) (by decide +kernel)) (by decide +kernel)
theorem mw_547 : Cond.instanceMethod (⟨"GrindingCircuitModel", "layLoads", "()Z"⟩ : MethodName) ∈ gt := gt_of (List.mem_of_getElem? (i := 547) (by decide +kernel)) (by decide +kernel)
theorem mw_548 : Cond.code (⟨"GrindingCircuitModel", "layLoads", "()Z"⟩ : MethodName) prog_8_method_13_code (8 : Nat) (Option.some FieldType.boolean) ∈ gt := gt_of (List.mem_of_getElem? (i := 548) (by decide +kernel)) (by decide +kernel)
theorem mw_549 : Cond.constantLong "GrindingCircuitModel" (49 : Nat) (100 : Int64) ∈ gt := gt_of (List.mem_of_getElem? (i := 549) (by decide +kernel)) (by decide +kernel)
theorem mw_550 : Cond.methodLink "GrindingCircuitModel" (64 : Nat) (⟨"GrindingCircuitModel", "part", "(JJI)J"⟩ : MethodName) ∈ gt := gt_of (List.mem_of_getElem? (i := 550) (by decide +kernel)) (by decide +kernel)
theorem mw_551 : Cond.static (⟨"GrindingCircuitModel", "part", "(JJI)J"⟩ : MethodName) ∈ gt := gt_of (List.mem_of_getElem? (i := 551) (by decide +kernel)) (by decide +kernel)
theorem mw_552 : Cond.code (⟨"GrindingCircuitModel", "part", "(JJI)J"⟩ : MethodName) prog_8_method_14_code (11 : Nat) (Option.some FieldType.long) ∈ gt := gt_of (List.mem_of_getElem? (i := 552) (by decide +kernel)) (by decide +kernel)
theorem mw_553 : Cond.methodLink "GrindingCircuitLaw" (43 : Nat) (⟨"GrindingCircuitModel", "product", "(II)J"⟩ : MethodName) ∈ gt := gt_of (List.mem_of_getElem? (i := 553) (by decide +kernel)) (by decide +kernel)
theorem mw_554 : Cond.instanceMethod (⟨"GrindingCircuitModel", "product", "(II)J"⟩ : MethodName) ∈ gt := gt_of (List.mem_of_getElem? (i := 554) (by decide +kernel)) (by decide +kernel)
theorem mw_555 : Cond.selects "GrindingCircuitModel" (⟨"GrindingCircuitModel", "product", "(II)J"⟩ : MethodName) (⟨"GrindingCircuitModel", "product", "(II)J"⟩ : MethodName) ∈ gt := gt_of (List.mem_of_getElem? (i := 555) (by decide +kernel)) (by decide +kernel)
theorem mw_556 : Cond.code (⟨"GrindingCircuitModel", "product", "(II)J"⟩ : MethodName) prog_8_method_18_code (7 : Nat) (Option.some FieldType.long) ∈ gt := gt_of (List.mem_of_getElem? (i := 556) (by decide +kernel)) (by decide +kernel)
theorem mw_557 : Cond.methodLink "GrindingCircuitLaw" (48 : Nat) (⟨"GrindingCircuitModel", "circulatingLoad", "(I)J"⟩ : MethodName) ∈ gt := gt_of (List.mem_of_getElem? (i := 557) (by decide +kernel)) (by decide +kernel)
theorem mw_558 : Cond.instanceMethod (⟨"GrindingCircuitModel", "circulatingLoad", "(I)J"⟩ : MethodName) ∈ gt := gt_of (List.mem_of_getElem? (i := 558) (by decide +kernel)) (by decide +kernel)
theorem mw_559 : Cond.selects "GrindingCircuitModel" (⟨"GrindingCircuitModel", "circulatingLoad", "(I)J"⟩ : MethodName) (⟨"GrindingCircuitModel", "circulatingLoad", "(I)J"⟩ : MethodName) ∈ gt := gt_of (List.mem_of_getElem? (i := 559) (by decide +kernel)) (by decide +kernel)
theorem mw_560 : Cond.code (⟨"GrindingCircuitModel", "circulatingLoad", "(I)J"⟩ : MethodName) prog_8_method_19_code (8 : Nat) (Option.some FieldType.long) ∈ gt := gt_of (List.mem_of_getElem? (i := 560) (by decide +kernel)) (by decide +kernel)
theorem mw_561 : Cond.constantLong "GrindingCircuitModel" (68 : Nat) (-7 : Int64) ∈ gt := gt_of (List.mem_of_getElem? (i := 561) (by decide +kernel)) (by decide +kernel)
theorem mw_562 : Cond.methodLink "GrindingCircuitLaw" (52 : Nat) (⟨"GrindingCircuitModel", "power", "(I)J"⟩ : MethodName) ∈ gt := gt_of (List.mem_of_getElem? (i := 562) (by decide +kernel)) (by decide +kernel)
theorem mw_563 : Cond.instanceMethod (⟨"GrindingCircuitModel", "power", "(I)J"⟩ : MethodName) ∈ gt := gt_of (List.mem_of_getElem? (i := 563) (by decide +kernel)) (by decide +kernel)
theorem mw_564 : Cond.selects "GrindingCircuitModel" (⟨"GrindingCircuitModel", "power", "(I)J"⟩ : MethodName) (⟨"GrindingCircuitModel", "power", "(I)J"⟩ : MethodName) ∈ gt := gt_of (List.mem_of_getElem? (i := 564) (by decide +kernel)) (by decide +kernel)
theorem mw_565 : Cond.code (⟨"GrindingCircuitModel", "power", "(I)J"⟩ : MethodName) prog_8_method_21_code (3 : Nat) (Option.some FieldType.long) ∈ gt := gt_of (List.mem_of_getElem? (i := 565) (by decide +kernel)) (by decide +kernel)
theorem mw_566 : Cond.methodLink "GrindingCircuitModel" (70 : Nat) (⟨"GrindingCircuitModel", "powerOf", "()J"⟩ : MethodName) ∈ gt := gt_of (List.mem_of_getElem? (i := 566) (by decide +kernel)) (by decide +kernel)
theorem mw_568 : Cond.instanceMethod (⟨"GrindingCircuitModel", "powerOf", "()J"⟩ : MethodName) ∈ gt := gt_of (List.mem_of_getElem? (i := 568) (by decide +kernel)) (by decide +kernel)
theorem mw_569 : Cond.code (⟨"GrindingCircuitModel", "powerOf", "()J"⟩ : MethodName) prog_8_method_20_code (4 : Nat) (Option.some FieldType.long) ∈ gt := gt_of (List.mem_of_getElem? (i := 569) (by decide +kernel)) (by decide +kernel)
theorem mw_570 : Cond.methodLink "GrindingCircuitLaw" (56 : Nat) (⟨"GrindingCircuitModel", "cutPower", "(II)J"⟩ : MethodName) ∈ gt := gt_of (List.mem_of_getElem? (i := 570) (by decide +kernel)) (by decide +kernel)
theorem mw_571 : Cond.instanceMethod (⟨"GrindingCircuitModel", "cutPower", "(II)J"⟩ : MethodName) ∈ gt := gt_of (List.mem_of_getElem? (i := 571) (by decide +kernel)) (by decide +kernel)
theorem mw_572 : Cond.selects "GrindingCircuitModel" (⟨"GrindingCircuitModel", "cutPower", "(II)J"⟩ : MethodName) (⟨"GrindingCircuitModel", "cutPower", "(II)J"⟩ : MethodName) ∈ gt := gt_of (List.mem_of_getElem? (i := 572) (by decide +kernel)) (by decide +kernel)
theorem mw_573 : Cond.code (⟨"GrindingCircuitModel", "cutPower", "(II)J"⟩ : MethodName) prog_8_method_22_code (3 : Nat) (Option.some FieldType.long) ∈ gt := gt_of (List.mem_of_getElem? (i := 573) (by decide +kernel)) (by decide +kernel)
theorem mw_574 : Cond.constantLong "GrindingCircuitModel" (74 : Nat) (-3 : Int64) ∈ gt := gt_of (List.mem_of_getElem? (i := 574) (by decide +kernel)) (by decide +kernel)
theorem mw_575 : Cond.methodLink "GrindingCircuitModel" (76 : Nat) (⟨"GrindingCircuitModel", "asCut", "(I)V"⟩ : MethodName) ∈ gt := gt_of (List.mem_of_getElem? (i := 575) (by decide +kernel)) (by decide +kernel)
theorem mw_577 : Cond.instanceMethod (⟨"GrindingCircuitModel", "asCut", "(I)V"⟩ : MethodName) ∈ gt := gt_of (List.mem_of_getElem? (i := 577) (by decide +kernel)) (by decide +kernel)
theorem mw_578 : Cond.code (⟨"GrindingCircuitModel", "asCut", "(I)V"⟩ : MethodName) prog_8_method_12_code (3 : Nat) (Option.none : Option FieldType) ∈ gt := gt_of (List.mem_of_getElem? (i := 578) (by decide +kernel)) (by decide +kernel)
theorem mw_579 : Cond.constantLong "GrindingCircuitModel" (80 : Nat) (-5 : Int64) ∈ gt := gt_of (List.mem_of_getElem? (i := 579) (by decide +kernel)) (by decide +kernel)
theorem mw_580 : Cond.methodLink "GrindingCircuitLaw" (61 : Nat) (⟨"GrindingCircuitModel", "finestCut", "(I)I"⟩ : MethodName) ∈ gt := gt_of (List.mem_of_getElem? (i := 580) (by decide +kernel)) (by decide +kernel)
theorem mw_581 : Cond.instanceMethod (⟨"GrindingCircuitModel", "finestCut", "(I)I"⟩ : MethodName) ∈ gt := gt_of (List.mem_of_getElem? (i := 581) (by decide +kernel)) (by decide +kernel)
theorem mw_582 : Cond.selects "GrindingCircuitModel" (⟨"GrindingCircuitModel", "finestCut", "(I)I"⟩ : MethodName) (⟨"GrindingCircuitModel", "finestCut", "(I)I"⟩ : MethodName) ∈ gt := gt_of (List.mem_of_getElem? (i := 582) (by decide +kernel)) (by decide +kernel)
theorem mw_583 : Cond.code (⟨"GrindingCircuitModel", "finestCut", "(I)I"⟩ : MethodName) prog_8_method_23_code (3 : Nat) (Option.some FieldType.int) ∈ gt := gt_of (List.mem_of_getElem? (i := 583) (by decide +kernel)) (by decide +kernel)
theorem mw_584 : Cond.constant "GrindingCircuitModel" (82 : Nat) (1000000000 : Int32) ∈ gt := gt_of (List.mem_of_getElem? (i := 584) (by decide +kernel)) (by decide +kernel)
theorem mw_585 : Cond.methodLink "GrindingCircuitLaw" (65 : Nat) (⟨"GrindingCircuitModel", "addLot", "(IIII)I"⟩ : MethodName) ∈ gt := gt_of (List.mem_of_getElem? (i := 585) (by decide +kernel)) (by decide +kernel)
theorem mw_586 : Cond.instanceMethod (⟨"GrindingCircuitModel", "addLot", "(IIII)I"⟩ : MethodName) ∈ gt := gt_of (List.mem_of_getElem? (i := 586) (by decide +kernel)) (by decide +kernel)
theorem mw_587 : Cond.selects "GrindingCircuitModel" (⟨"GrindingCircuitModel", "addLot", "(IIII)I"⟩ : MethodName) (⟨"GrindingCircuitModel", "addLot", "(IIII)I"⟩ : MethodName) ∈ gt := gt_of (List.mem_of_getElem? (i := 587) (by decide +kernel)) (by decide +kernel)
theorem mw_588 : Cond.code (⟨"GrindingCircuitModel", "addLot", "(IIII)I"⟩ : MethodName) prog_8_method_38_code (6 : Nat) (Option.some FieldType.int) ∈ gt := gt_of (List.mem_of_getElem? (i := 588) (by decide +kernel)) (by decide +kernel)
theorem mw_589 : Cond.methodLink "GrindingCircuitModel" (118 : Nat) (⟨"GrindingCircuitModel", "areMasses", "(IIII)Z"⟩ : MethodName) ∈ gt := gt_of (List.mem_of_getElem? (i := 589) (by decide +kernel)) (by decide +kernel)
theorem mw_590 : Cond.static (⟨"GrindingCircuitModel", "areMasses", "(IIII)Z"⟩ : MethodName) ∈ gt := gt_of (List.mem_of_getElem? (i := 590) (by decide +kernel)) (by decide +kernel)
theorem mw_591 : Cond.code (⟨"GrindingCircuitModel", "areMasses", "(IIII)Z"⟩ : MethodName) prog_8_method_36_code (4 : Nat) (Option.some FieldType.boolean) ∈ gt := gt_of (List.mem_of_getElem? (i := 591) (by decide +kernel)) (by decide +kernel)
theorem mw_592 : Cond.methodLink "GrindingCircuitModel" (115 : Nat) (⟨"GrindingCircuitModel", "isMass", "(I)Z"⟩ : MethodName) ∈ gt := gt_of (List.mem_of_getElem? (i := 592) (by decide +kernel)) (by decide +kernel)
theorem mw_593 : Cond.static (⟨"GrindingCircuitModel", "isMass", "(I)Z"⟩ : MethodName) ∈ gt := gt_of (List.mem_of_getElem? (i := 593) (by decide +kernel)) (by decide +kernel)
theorem mw_594 : Cond.code (⟨"GrindingCircuitModel", "isMass", "(I)Z"⟩ : MethodName) prog_8_method_35_code (1 : Nat) (Option.some FieldType.boolean) ∈ gt := gt_of (List.mem_of_getElem? (i := 594) (by decide +kernel)) (by decide +kernel)
theorem mw_595 : Cond.methodLink "GrindingCircuitModel" (122 : Nat) (⟨"GrindingCircuitModel", "make", "(IIII)I"⟩ : MethodName) ∈ gt := gt_of (List.mem_of_getElem? (i := 595) (by decide +kernel)) (by decide +kernel)
theorem mw_597 : Cond.instanceMethod (⟨"GrindingCircuitModel", "make", "(IIII)I"⟩ : MethodName) ∈ gt := gt_of (List.mem_of_getElem? (i := 597) (by decide +kernel)) (by decide +kernel)
theorem mw_598 : Cond.code (⟨"GrindingCircuitModel", "make", "(IIII)I"⟩ : MethodName) prog_8_method_37_code (6 : Nat) (Option.some FieldType.int) ∈ gt := gt_of (List.mem_of_getElem? (i := 598) (by decide +kernel)) (by decide +kernel)
theorem mw_599 : Cond.methodLink "GrindingCircuitModel" (83 : Nat) (⟨"GrindingCircuitModel", "lot", "(II)I"⟩ : MethodName) ∈ gt := gt_of (List.mem_of_getElem? (i := 599) (by decide +kernel)) (by decide +kernel)
theorem mw_600 : Cond.static (⟨"GrindingCircuitModel", "lot", "(II)I"⟩ : MethodName) ∈ gt := gt_of (List.mem_of_getElem? (i := 600) (by decide +kernel)) (by decide +kernel)
theorem mw_601 : Cond.code (⟨"GrindingCircuitModel", "lot", "(II)I"⟩ : MethodName) prog_8_method_24_code (2 : Nat) (Option.some FieldType.int) ∈ gt := gt_of (List.mem_of_getElem? (i := 601) (by decide +kernel)) (by decide +kernel)
theorem mw_602 : Cond.methodLink "GrindingCircuitModel" (106 : Nat) (⟨"GrindingCircuitModel", "comes", "(I)V"⟩ : MethodName) ∈ gt := gt_of (List.mem_of_getElem? (i := 602) (by decide +kernel)) (by decide +kernel)
theorem mw_604 : Cond.instanceMethod (⟨"GrindingCircuitModel", "comes", "(I)V"⟩ : MethodName) ∈ gt := gt_of (List.mem_of_getElem? (i := 604) (by decide +kernel)) (by decide +kernel)
theorem mw_605 : Cond.code (⟨"GrindingCircuitModel", "comes", "(I)V"⟩ : MethodName) prog_8_method_31_code (2 : Nat) (Option.none : Option FieldType) ∈ gt := gt_of (List.mem_of_getElem? (i := 605) (by decide +kernel)) (by decide +kernel)
theorem mw_606 : Cond.methodLink "GrindingCircuitModel" (112 : Nat) (⟨"GrindingCircuitModel", "start", "()V"⟩ : MethodName) ∈ gt := gt_of (List.mem_of_getElem? (i := 606) (by decide +kernel)) (by decide +kernel)
theorem mw_608 : Cond.instanceMethod (⟨"GrindingCircuitModel", "start", "()V"⟩ : MethodName) ∈ gt := gt_of (List.mem_of_getElem? (i := 608) (by decide +kernel)) (by decide +kernel)
theorem mw_609 : Cond.code (⟨"GrindingCircuitModel", "start", "()V"⟩ : MethodName) prog_8_method_32_code (2 : Nat) (Option.none : Option FieldType) ∈ gt := gt_of (List.mem_of_getElem? (i := 609) (by decide +kernel)) (by decide +kernel)
theorem mw_610 : Cond.methodLink "GrindingCircuitModel" (103 : Nat) (⟨"GrindingCircuitModel", "inBin", "(I)I"⟩ : MethodName) ∈ gt := gt_of (List.mem_of_getElem? (i := 610) (by decide +kernel)) (by decide +kernel)
theorem mw_612 : Cond.instanceMethod (⟨"GrindingCircuitModel", "inBin", "(I)I"⟩ : MethodName) ∈ gt := gt_of (List.mem_of_getElem? (i := 612) (by decide +kernel)) (by decide +kernel)
theorem mw_613 : Cond.code (⟨"GrindingCircuitModel", "inBin", "(I)I"⟩ : MethodName) prog_8_method_30_code (3 : Nat) (Option.some FieldType.int) ∈ gt := gt_of (List.mem_of_getElem? (i := 613) (by decide +kernel)) (by decide +kernel)
theorem mw_614 : Cond.methodLink "GrindingCircuitModel" (86 : Nat) (⟨"GrindingCircuitModel", "of", "(II)I"⟩ : MethodName) ∈ gt := gt_of (List.mem_of_getElem? (i := 614) (by decide +kernel)) (by decide +kernel)
theorem mw_616 : Cond.instanceMethod (⟨"GrindingCircuitModel", "of", "(II)I"⟩ : MethodName) ∈ gt := gt_of (List.mem_of_getElem? (i := 616) (by decide +kernel)) (by decide +kernel)
theorem mw_617 : Cond.code (⟨"GrindingCircuitModel", "of", "(II)I"⟩ : MethodName) prog_8_method_25_code (3 : Nat) (Option.some FieldType.int) ∈ gt := gt_of (List.mem_of_getElem? (i := 617) (by decide +kernel)) (by decide +kernel)
theorem mw_618 : Cond.methodLink "GrindingCircuitModel" (100 : Nat) (⟨"GrindingCircuitModel", "place", "(I)I"⟩ : MethodName) ∈ gt := gt_of (List.mem_of_getElem? (i := 618) (by decide +kernel)) (by decide +kernel)
theorem mw_620 : Cond.instanceMethod (⟨"GrindingCircuitModel", "place", "(I)I"⟩ : MethodName) ∈ gt := gt_of (List.mem_of_getElem? (i := 620) (by decide +kernel)) (by decide +kernel)
theorem mw_621 : Cond.code (⟨"GrindingCircuitModel", "place", "(I)I"⟩ : MethodName) prog_8_method_29_code (4 : Nat) (Option.some FieldType.int) ∈ gt := gt_of (List.mem_of_getElem? (i := 621) (by decide +kernel)) (by decide +kernel)
theorem mw_622 : Cond.methodLink "GrindingCircuitModel" (96 : Nat) (⟨"GrindingCircuitModel", "isAhead", "(II)Z"⟩ : MethodName) ∈ gt := gt_of (List.mem_of_getElem? (i := 622) (by decide +kernel)) (by decide +kernel)
theorem mw_624 : Cond.instanceMethod (⟨"GrindingCircuitModel", "isAhead", "(II)Z"⟩ : MethodName) ∈ gt := gt_of (List.mem_of_getElem? (i := 624) (by decide +kernel)) (by decide +kernel)
theorem mw_625 : Cond.code (⟨"GrindingCircuitModel", "isAhead", "(II)Z"⟩ : MethodName) prog_8_method_28_code (4 : Nat) (Option.some FieldType.boolean) ∈ gt := gt_of (List.mem_of_getElem? (i := 625) (by decide +kernel)) (by decide +kernel)
theorem mw_626 : Cond.methodLink "GrindingCircuitModel" (93 : Nat) (⟨"GrindingCircuitModel", "ahead", "(II)I"⟩ : MethodName) ∈ gt := gt_of (List.mem_of_getElem? (i := 626) (by decide +kernel)) (by decide +kernel)
theorem mw_628 : Cond.instanceMethod (⟨"GrindingCircuitModel", "ahead", "(II)I"⟩ : MethodName) ∈ gt := gt_of (List.mem_of_getElem? (i := 628) (by decide +kernel)) (by decide +kernel)
theorem mw_629 : Cond.code (⟨"GrindingCircuitModel", "ahead", "(II)I"⟩ : MethodName) prog_8_method_27_code (4 : Nat) (Option.some FieldType.int) ∈ gt := gt_of (List.mem_of_getElem? (i := 629) (by decide +kernel)) (by decide +kernel)
theorem mw_630 : Cond.methodLink "GrindingCircuitModel" (89 : Nat) (⟨"GrindingCircuitModel", "weight", "(I)I"⟩ : MethodName) ∈ gt := gt_of (List.mem_of_getElem? (i := 630) (by decide +kernel)) (by decide +kernel)
theorem mw_632 : Cond.instanceMethod (⟨"GrindingCircuitModel", "weight", "(I)I"⟩ : MethodName) ∈ gt := gt_of (List.mem_of_getElem? (i := 632) (by decide +kernel)) (by decide +kernel)
theorem mw_633 : Cond.code (⟨"GrindingCircuitModel", "weight", "(I)I"⟩ : MethodName) prog_8_method_26_code (2 : Nat) (Option.some FieldType.int) ∈ gt := gt_of (List.mem_of_getElem? (i := 633) (by decide +kernel)) (by decide +kernel)
theorem mw_634 : Cond.methodLink "GrindingCircuitLaw" (70 : Nat) (⟨"GrindingCircuitModel", "planLot", "(IIIII)I"⟩ : MethodName) ∈ gt := gt_of (List.mem_of_getElem? (i := 634) (by decide +kernel)) (by decide +kernel)
theorem mw_635 : Cond.instanceMethod (⟨"GrindingCircuitModel", "planLot", "(IIIII)I"⟩ : MethodName) ∈ gt := gt_of (List.mem_of_getElem? (i := 635) (by decide +kernel)) (by decide +kernel)
theorem mw_636 : Cond.selects "GrindingCircuitModel" (⟨"GrindingCircuitModel", "planLot", "(IIIII)I"⟩ : MethodName) (⟨"GrindingCircuitModel", "planLot", "(IIIII)I"⟩ : MethodName) ∈ gt := gt_of (List.mem_of_getElem? (i := 636) (by decide +kernel)) (by decide +kernel)
theorem mw_637 : Cond.code (⟨"GrindingCircuitModel", "planLot", "(IIIII)I"⟩ : MethodName) prog_8_method_39_code (7 : Nat) (Option.some FieldType.int) ∈ gt := gt_of (List.mem_of_getElem? (i := 637) (by decide +kernel)) (by decide +kernel)
theorem mw_638 : Cond.methodLink "GrindingCircuitLaw" (74 : Nat) (⟨"GrindingCircuitModel", "advance", "(I)I"⟩ : MethodName) ∈ gt := gt_of (List.mem_of_getElem? (i := 638) (by decide +kernel)) (by decide +kernel)
theorem mw_639 : Cond.instanceMethod (⟨"GrindingCircuitModel", "advance", "(I)I"⟩ : MethodName) ∈ gt := gt_of (List.mem_of_getElem? (i := 639) (by decide +kernel)) (by decide +kernel)
theorem mw_640 : Cond.selects "GrindingCircuitModel" (⟨"GrindingCircuitModel", "advance", "(I)I"⟩ : MethodName) (⟨"GrindingCircuitModel", "advance", "(I)I"⟩ : MethodName) ∈ gt := gt_of (List.mem_of_getElem? (i := 640) (by decide +kernel)) (by decide +kernel)
theorem mw_641 : Cond.code (⟨"GrindingCircuitModel", "advance", "(I)I"⟩ : MethodName) prog_8_method_40_code (3 : Nat) (Option.some FieldType.int) ∈ gt := gt_of (List.mem_of_getElem? (i := 641) (by decide +kernel)) (by decide +kernel)
theorem mw_642 : Cond.methodLink "GrindingCircuitModel" (126 : Nat) (⟨"GrindingCircuitModel", "minute", "()V"⟩ : MethodName) ∈ gt := gt_of (List.mem_of_getElem? (i := 642) (by decide +kernel)) (by decide +kernel)
theorem mw_644 : Cond.instanceMethod (⟨"GrindingCircuitModel", "minute", "()V"⟩ : MethodName) ∈ gt := gt_of (List.mem_of_getElem? (i := 644) (by decide +kernel)) (by decide +kernel)
theorem mw_645 : Cond.code (⟨"GrindingCircuitModel", "minute", "()V"⟩ : MethodName) prog_8_method_34_code (2 : Nat) (Option.none : Option FieldType) ∈ gt := gt_of (List.mem_of_getElem? (i := 645) (by decide +kernel)) (by decide +kernel)
theorem mw_646 : Cond.methodLink "GrindingCircuitModel" (109 : Nat) (⟨"GrindingCircuitModel", "finish", "()V"⟩ : MethodName) ∈ gt := gt_of (List.mem_of_getElem? (i := 646) (by decide +kernel)) (by decide +kernel)
theorem mw_648 : Cond.instanceMethod (⟨"GrindingCircuitModel", "finish", "()V"⟩ : MethodName) ∈ gt := gt_of (List.mem_of_getElem? (i := 648) (by decide +kernel)) (by decide +kernel)
theorem mw_649 : Cond.code (⟨"GrindingCircuitModel", "finish", "()V"⟩ : MethodName) prog_8_method_33_code (7 : Nat) (Option.none : Option FieldType) ∈ gt := gt_of (List.mem_of_getElem? (i := 649) (by decide +kernel)) (by decide +kernel)
theorem mw_650 : Cond.methodLink "GrindingCircuitLaw" (78 : Nat) (⟨"GrindingCircuitModel", "setRate", "(I)I"⟩ : MethodName) ∈ gt := gt_of (List.mem_of_getElem? (i := 650) (by decide +kernel)) (by decide +kernel)
theorem mw_651 : Cond.instanceMethod (⟨"GrindingCircuitModel", "setRate", "(I)I"⟩ : MethodName) ∈ gt := gt_of (List.mem_of_getElem? (i := 651) (by decide +kernel)) (by decide +kernel)
theorem mw_652 : Cond.selects "GrindingCircuitModel" (⟨"GrindingCircuitModel", "setRate", "(I)I"⟩ : MethodName) (⟨"GrindingCircuitModel", "setRate", "(I)I"⟩ : MethodName) ∈ gt := gt_of (List.mem_of_getElem? (i := 652) (by decide +kernel)) (by decide +kernel)
theorem mw_653 : Cond.code (⟨"GrindingCircuitModel", "setRate", "(I)I"⟩ : MethodName) prog_8_method_41_code (2 : Nat) (Option.some FieldType.int) ∈ gt := gt_of (List.mem_of_getElem? (i := 653) (by decide +kernel)) (by decide +kernel)
theorem mw_654 : Cond.methodLink "GrindingCircuitLaw" (82 : Nat) (⟨"GrindingCircuitModel", "setRule", "(I)I"⟩ : MethodName) ∈ gt := gt_of (List.mem_of_getElem? (i := 654) (by decide +kernel)) (by decide +kernel)
theorem mw_655 : Cond.instanceMethod (⟨"GrindingCircuitModel", "setRule", "(I)I"⟩ : MethodName) ∈ gt := gt_of (List.mem_of_getElem? (i := 655) (by decide +kernel)) (by decide +kernel)
theorem mw_656 : Cond.selects "GrindingCircuitModel" (⟨"GrindingCircuitModel", "setRule", "(I)I"⟩ : MethodName) (⟨"GrindingCircuitModel", "setRule", "(I)I"⟩ : MethodName) ∈ gt := gt_of (List.mem_of_getElem? (i := 656) (by decide +kernel)) (by decide +kernel)
theorem mw_657 : Cond.code (⟨"GrindingCircuitModel", "setRule", "(I)I"⟩ : MethodName) prog_8_method_42_code (2 : Nat) (Option.some FieldType.int) ∈ gt := gt_of (List.mem_of_getElem? (i := 657) (by decide +kernel)) (by decide +kernel)
theorem mw_658 : Cond.methodLink "GrindingCircuitLaw" (86 : Nat) (⟨"GrindingCircuitModel", "bin", "(I)I"⟩ : MethodName) ∈ gt := gt_of (List.mem_of_getElem? (i := 658) (by decide +kernel)) (by decide +kernel)
theorem mw_659 : Cond.instanceMethod (⟨"GrindingCircuitModel", "bin", "(I)I"⟩ : MethodName) ∈ gt := gt_of (List.mem_of_getElem? (i := 659) (by decide +kernel)) (by decide +kernel)
theorem mw_660 : Cond.selects "GrindingCircuitModel" (⟨"GrindingCircuitModel", "bin", "(I)I"⟩ : MethodName) (⟨"GrindingCircuitModel", "bin", "(I)I"⟩ : MethodName) ∈ gt := gt_of (List.mem_of_getElem? (i := 660) (by decide +kernel)) (by decide +kernel)
theorem mw_661 : Cond.code (⟨"GrindingCircuitModel", "bin", "(I)I"⟩ : MethodName) prog_8_method_43_code (4 : Nat) (Option.some FieldType.int) ∈ gt := gt_of (List.mem_of_getElem? (i := 661) (by decide +kernel)) (by decide +kernel)
theorem mw_662 : Cond.methodLink "GrindingCircuitLaw" (90 : Nat) (⟨"GrindingCircuitModel", "mill", "(I)I"⟩ : MethodName) ∈ gt := gt_of (List.mem_of_getElem? (i := 662) (by decide +kernel)) (by decide +kernel)
theorem mw_663 : Cond.instanceMethod (⟨"GrindingCircuitModel", "mill", "(I)I"⟩ : MethodName) ∈ gt := gt_of (List.mem_of_getElem? (i := 663) (by decide +kernel)) (by decide +kernel)
theorem mw_664 : Cond.selects "GrindingCircuitModel" (⟨"GrindingCircuitModel", "mill", "(I)I"⟩ : MethodName) (⟨"GrindingCircuitModel", "mill", "(I)I"⟩ : MethodName) ∈ gt := gt_of (List.mem_of_getElem? (i := 664) (by decide +kernel)) (by decide +kernel)
theorem mw_665 : Cond.code (⟨"GrindingCircuitModel", "mill", "(I)I"⟩ : MethodName) prog_8_method_44_code (2 : Nat) (Option.some FieldType.int) ∈ gt := gt_of (List.mem_of_getElem? (i := 665) (by decide +kernel)) (by decide +kernel)
theorem mw_666 : Cond.methodLink "GrindingCircuitLaw" (94 : Nat) (⟨"GrindingCircuitModel", "state", "(I)I"⟩ : MethodName) ∈ gt := gt_of (List.mem_of_getElem? (i := 666) (by decide +kernel)) (by decide +kernel)
theorem mw_667 : Cond.instanceMethod (⟨"GrindingCircuitModel", "state", "(I)I"⟩ : MethodName) ∈ gt := gt_of (List.mem_of_getElem? (i := 667) (by decide +kernel)) (by decide +kernel)
theorem mw_668 : Cond.selects "GrindingCircuitModel" (⟨"GrindingCircuitModel", "state", "(I)I"⟩ : MethodName) (⟨"GrindingCircuitModel", "state", "(I)I"⟩ : MethodName) ∈ gt := gt_of (List.mem_of_getElem? (i := 668) (by decide +kernel)) (by decide +kernel)
theorem mw_669 : Cond.code (⟨"GrindingCircuitModel", "state", "(I)I"⟩ : MethodName) prog_8_method_46_code (2 : Nat) (Option.some FieldType.int) ∈ gt := gt_of (List.mem_of_getElem? (i := 669) (by decide +kernel)) (by decide +kernel)
theorem mw_670 : Cond.methodLink "GrindingCircuitModel" (129 : Nat) (⟨"GrindingCircuitModel", "isLot", "(I)Z"⟩ : MethodName) ∈ gt := gt_of (List.mem_of_getElem? (i := 670) (by decide +kernel)) (by decide +kernel)
theorem mw_672 : Cond.instanceMethod (⟨"GrindingCircuitModel", "isLot", "(I)Z"⟩ : MethodName) ∈ gt := gt_of (List.mem_of_getElem? (i := 672) (by decide +kernel)) (by decide +kernel)
theorem mw_673 : Cond.code (⟨"GrindingCircuitModel", "isLot", "(I)Z"⟩ : MethodName) prog_8_method_45_code (2 : Nat) (Option.some FieldType.boolean) ∈ gt := gt_of (List.mem_of_getElem? (i := 673) (by decide +kernel)) (by decide +kernel)
theorem mw_674 : Cond.methodLink "GrindingCircuitLaw" (98 : Nat) (⟨"GrindingCircuitModel", "mass", "(II)I"⟩ : MethodName) ∈ gt := gt_of (List.mem_of_getElem? (i := 674) (by decide +kernel)) (by decide +kernel)
theorem mw_675 : Cond.instanceMethod (⟨"GrindingCircuitModel", "mass", "(II)I"⟩ : MethodName) ∈ gt := gt_of (List.mem_of_getElem? (i := 675) (by decide +kernel)) (by decide +kernel)
theorem mw_676 : Cond.selects "GrindingCircuitModel" (⟨"GrindingCircuitModel", "mass", "(II)I"⟩ : MethodName) (⟨"GrindingCircuitModel", "mass", "(II)I"⟩ : MethodName) ∈ gt := gt_of (List.mem_of_getElem? (i := 676) (by decide +kernel)) (by decide +kernel)
theorem mw_677 : Cond.code (⟨"GrindingCircuitModel", "mass", "(II)I"⟩ : MethodName) prog_8_method_47_code (3 : Nat) (Option.some FieldType.int) ∈ gt := gt_of (List.mem_of_getElem? (i := 677) (by decide +kernel)) (by decide +kernel)
theorem mw_678 : Cond.methodLink "GrindingCircuitLaw" (102 : Nat) (⟨"GrindingCircuitModel", "passes", "(I)I"⟩ : MethodName) ∈ gt := gt_of (List.mem_of_getElem? (i := 678) (by decide +kernel)) (by decide +kernel)
theorem mw_679 : Cond.instanceMethod (⟨"GrindingCircuitModel", "passes", "(I)I"⟩ : MethodName) ∈ gt := gt_of (List.mem_of_getElem? (i := 679) (by decide +kernel)) (by decide +kernel)
theorem mw_680 : Cond.selects "GrindingCircuitModel" (⟨"GrindingCircuitModel", "passes", "(I)I"⟩ : MethodName) (⟨"GrindingCircuitModel", "passes", "(I)I"⟩ : MethodName) ∈ gt := gt_of (List.mem_of_getElem? (i := 680) (by decide +kernel)) (by decide +kernel)
theorem mw_681 : Cond.code (⟨"GrindingCircuitModel", "passes", "(I)I"⟩ : MethodName) prog_8_method_48_code (2 : Nat) (Option.some FieldType.int) ∈ gt := gt_of (List.mem_of_getElem? (i := 681) (by decide +kernel)) (by decide +kernel)
theorem mw_682 : Cond.methodLink "GrindingCircuitLaw" (106 : Nat) (⟨"GrindingCircuitModel", "produced", "(I)I"⟩ : MethodName) ∈ gt := gt_of (List.mem_of_getElem? (i := 682) (by decide +kernel)) (by decide +kernel)
theorem mw_683 : Cond.instanceMethod (⟨"GrindingCircuitModel", "produced", "(I)I"⟩ : MethodName) ∈ gt := gt_of (List.mem_of_getElem? (i := 683) (by decide +kernel)) (by decide +kernel)
theorem mw_684 : Cond.selects "GrindingCircuitModel" (⟨"GrindingCircuitModel", "produced", "(I)I"⟩ : MethodName) (⟨"GrindingCircuitModel", "produced", "(I)I"⟩ : MethodName) ∈ gt := gt_of (List.mem_of_getElem? (i := 684) (by decide +kernel)) (by decide +kernel)
theorem mw_685 : Cond.code (⟨"GrindingCircuitModel", "produced", "(I)I"⟩ : MethodName) prog_8_method_49_code (2 : Nat) (Option.some FieldType.int) ∈ gt := gt_of (List.mem_of_getElem? (i := 685) (by decide +kernel)) (by decide +kernel)
theorem mw_686 : Cond.methodLink "GrindingCircuitLaw" (110 : Nat) (⟨"GrindingCircuitModel", "total", "(I)I"⟩ : MethodName) ∈ gt := gt_of (List.mem_of_getElem? (i := 686) (by decide +kernel)) (by decide +kernel)
theorem mw_687 : Cond.instanceMethod (⟨"GrindingCircuitModel", "total", "(I)I"⟩ : MethodName) ∈ gt := gt_of (List.mem_of_getElem? (i := 687) (by decide +kernel)) (by decide +kernel)
theorem mw_688 : Cond.selects "GrindingCircuitModel" (⟨"GrindingCircuitModel", "total", "(I)I"⟩ : MethodName) (⟨"GrindingCircuitModel", "total", "(I)I"⟩ : MethodName) ∈ gt := gt_of (List.mem_of_getElem? (i := 688) (by decide +kernel)) (by decide +kernel)
theorem mw_689 : Cond.code (⟨"GrindingCircuitModel", "total", "(I)I"⟩ : MethodName) prog_8_method_50_code (2 : Nat) (Option.some FieldType.int) ∈ gt := gt_of (List.mem_of_getElem? (i := 689) (by decide +kernel)) (by decide +kernel)
theorem mw_690 : Cond.methodLink "GrindingCircuitLaw" (114 : Nat) (⟨"GrindingCircuitModel", "save", "(I)I"⟩ : MethodName) ∈ gt := gt_of (List.mem_of_getElem? (i := 690) (by decide +kernel)) (by decide +kernel)
theorem mw_691 : Cond.instanceMethod (⟨"GrindingCircuitModel", "save", "(I)I"⟩ : MethodName) ∈ gt := gt_of (List.mem_of_getElem? (i := 691) (by decide +kernel)) (by decide +kernel)
theorem mw_692 : Cond.selects "GrindingCircuitModel" (⟨"GrindingCircuitModel", "save", "(I)I"⟩ : MethodName) (⟨"GrindingCircuitModel", "save", "(I)I"⟩ : MethodName) ∈ gt := gt_of (List.mem_of_getElem? (i := 692) (by decide +kernel)) (by decide +kernel)
theorem mw_693 : Cond.code (⟨"GrindingCircuitModel", "save", "(I)I"⟩ : MethodName) prog_8_method_51_code (3 : Nat) (Option.some FieldType.int) ∈ gt := gt_of (List.mem_of_getElem? (i := 693) (by decide +kernel)) (by decide +kernel)
theorem mw_694 : Cond.methodLink "GrindingCircuitLaw" (118 : Nat) (⟨"GrindingCircuitModel", "restore", "(I)I"⟩ : MethodName) ∈ gt := gt_of (List.mem_of_getElem? (i := 694) (by decide +kernel)) (by decide +kernel)
theorem mw_695 : Cond.instanceMethod (⟨"GrindingCircuitModel", "restore", "(I)I"⟩ : MethodName) ∈ gt := gt_of (List.mem_of_getElem? (i := 695) (by decide +kernel)) (by decide +kernel)
theorem mw_696 : Cond.selects "GrindingCircuitModel" (⟨"GrindingCircuitModel", "restore", "(I)I"⟩ : MethodName) (⟨"GrindingCircuitModel", "restore", "(I)I"⟩ : MethodName) ∈ gt := gt_of (List.mem_of_getElem? (i := 696) (by decide +kernel)) (by decide +kernel)
theorem mw_697 : Cond.code (⟨"GrindingCircuitModel", "restore", "(I)I"⟩ : MethodName) prog_8_method_52_code (3 : Nat) (Option.some FieldType.int) ∈ gt := gt_of (List.mem_of_getElem? (i := 697) (by decide +kernel)) (by decide +kernel)
theorem ms_0 : Cond.selects "GrindingCircuit$SteadyState" ⟨"GrindingCircuit$SteadyState", "solveSize", "(LGrindingCircuit$Settings;II)V"⟩ ⟨"GrindingCircuit$SteadyState", "solveSize", "(LGrindingCircuit$Settings;II)V"⟩ ∈ gt := gt_sel (List.mem_of_getElem? (i := 0) (by decide +kernel)) (by decide +kernel)
theorem ms_1 : Cond.selects "GrindingCircuit$Simulation" ⟨"GrindingCircuit$Simulation", "firstOfBin", "(I)I"⟩ ⟨"GrindingCircuit$Simulation", "firstOfBin", "(I)I"⟩ ∈ gt := gt_sel (List.mem_of_getElem? (i := 1) (by decide +kernel)) (by decide +kernel)
theorem ms_2 : Cond.selects "GrindingCircuit$Lot" ⟨"GrindingCircuit$Lot", "coarserBy", "(LGrindingCircuit$Lot;)I"⟩ ⟨"GrindingCircuit$Lot", "coarserBy", "(LGrindingCircuit$Lot;)I"⟩ ∈ gt := gt_sel (List.mem_of_getElem? (i := 2) (by decide +kernel)) (by decide +kernel)
theorem ms_3 : Cond.selects "GrindingCircuit$Simulation" ⟨"GrindingCircuit$Simulation", "nextEvent", "()I"⟩ ⟨"GrindingCircuit$Simulation", "nextEvent", "()I"⟩ ∈ gt := gt_sel (List.mem_of_getElem? (i := 3) (by decide +kernel)) (by decide +kernel)
theorem ms_4 : Cond.selects "GrindingCircuit$Simulation" ⟨"GrindingCircuit$Simulation", "finishIfDue", "(LGrindingCircuit$Settings;)V"⟩ ⟨"GrindingCircuit$Simulation", "finishIfDue", "(LGrindingCircuit$Settings;)V"⟩ ∈ gt := gt_sel (List.mem_of_getElem? (i := 4) (by decide +kernel)) (by decide +kernel)
theorem ms_5 : Cond.selects "GrindingCircuit$Simulation" ⟨"GrindingCircuit$Simulation", "takePlannedLots", "()V"⟩ ⟨"GrindingCircuit$Simulation", "takePlannedLots", "()V"⟩ ∈ gt := gt_sel (List.mem_of_getElem? (i := 5) (by decide +kernel)) (by decide +kernel)
theorem ms_6 : Cond.selects "GrindingCircuit$Simulation" ⟨"GrindingCircuit$Simulation", "countBefore", "(LGrindingCircuit$Lot;I)I"⟩ ⟨"GrindingCircuit$Simulation", "countBefore", "(LGrindingCircuit$Lot;I)I"⟩ ∈ gt := gt_sel (List.mem_of_getElem? (i := 6) (by decide +kernel)) (by decide +kernel)
theorem ms_7 : Cond.selects "GrindingCircuitModel" ⟨"GrindingCircuitModel", "shareOf", "(II)I"⟩ ⟨"GrindingCircuitModel", "shareOf", "(II)I"⟩ ∈ gt := gt_sel (List.mem_of_getElem? (i := 7) (by decide +kernel)) (by decide +kernel)
theorem ms_8 : Cond.selects "GrindingCircuitModel" ⟨"GrindingCircuitModel", "set", "(II)I"⟩ ⟨"GrindingCircuitModel", "set", "(II)I"⟩ ∈ gt := gt_sel (List.mem_of_getElem? (i := 8) (by decide +kernel)) (by decide +kernel)
theorem ms_9 : Cond.selects "GrindingCircuitModel" ⟨"GrindingCircuitModel", "wrongSteady", "(II)I"⟩ ⟨"GrindingCircuitModel", "wrongSteady", "(II)I"⟩ ∈ gt := gt_sel (List.mem_of_getElem? (i := 9) (by decide +kernel)) (by decide +kernel)
theorem ms_10 : Cond.selects "GrindingCircuitModel" ⟨"GrindingCircuitModel", "asSet", "()V"⟩ ⟨"GrindingCircuitModel", "asSet", "()V"⟩ ∈ gt := gt_sel (List.mem_of_getElem? (i := 10) (by decide +kernel)) (by decide +kernel)
theorem ms_11 : Cond.selects "GrindingCircuitModel" ⟨"GrindingCircuitModel", "layLoads", "()Z"⟩ ⟨"GrindingCircuitModel", "layLoads", "()Z"⟩ ∈ gt := gt_sel (List.mem_of_getElem? (i := 11) (by decide +kernel)) (by decide +kernel)
theorem ms_12 : Cond.selects "GrindingCircuitModel" ⟨"GrindingCircuitModel", "powerOf", "()J"⟩ ⟨"GrindingCircuitModel", "powerOf", "()J"⟩ ∈ gt := gt_sel (List.mem_of_getElem? (i := 12) (by decide +kernel)) (by decide +kernel)
theorem ms_13 : Cond.selects "GrindingCircuitModel" ⟨"GrindingCircuitModel", "asCut", "(I)V"⟩ ⟨"GrindingCircuitModel", "asCut", "(I)V"⟩ ∈ gt := gt_sel (List.mem_of_getElem? (i := 13) (by decide +kernel)) (by decide +kernel)
theorem ms_14 : Cond.selects "GrindingCircuitModel" ⟨"GrindingCircuitModel", "make", "(IIII)I"⟩ ⟨"GrindingCircuitModel", "make", "(IIII)I"⟩ ∈ gt := gt_sel (List.mem_of_getElem? (i := 14) (by decide +kernel)) (by decide +kernel)
theorem ms_15 : Cond.selects "GrindingCircuitModel" ⟨"GrindingCircuitModel", "comes", "(I)V"⟩ ⟨"GrindingCircuitModel", "comes", "(I)V"⟩ ∈ gt := gt_sel (List.mem_of_getElem? (i := 15) (by decide +kernel)) (by decide +kernel)
theorem ms_16 : Cond.selects "GrindingCircuitModel" ⟨"GrindingCircuitModel", "start", "()V"⟩ ⟨"GrindingCircuitModel", "start", "()V"⟩ ∈ gt := gt_sel (List.mem_of_getElem? (i := 16) (by decide +kernel)) (by decide +kernel)
theorem ms_17 : Cond.selects "GrindingCircuitModel" ⟨"GrindingCircuitModel", "inBin", "(I)I"⟩ ⟨"GrindingCircuitModel", "inBin", "(I)I"⟩ ∈ gt := gt_sel (List.mem_of_getElem? (i := 17) (by decide +kernel)) (by decide +kernel)
theorem ms_18 : Cond.selects "GrindingCircuitModel" ⟨"GrindingCircuitModel", "of", "(II)I"⟩ ⟨"GrindingCircuitModel", "of", "(II)I"⟩ ∈ gt := gt_sel (List.mem_of_getElem? (i := 18) (by decide +kernel)) (by decide +kernel)
theorem ms_19 : Cond.selects "GrindingCircuitModel" ⟨"GrindingCircuitModel", "place", "(I)I"⟩ ⟨"GrindingCircuitModel", "place", "(I)I"⟩ ∈ gt := gt_sel (List.mem_of_getElem? (i := 19) (by decide +kernel)) (by decide +kernel)
theorem ms_20 : Cond.selects "GrindingCircuitModel" ⟨"GrindingCircuitModel", "isAhead", "(II)Z"⟩ ⟨"GrindingCircuitModel", "isAhead", "(II)Z"⟩ ∈ gt := gt_sel (List.mem_of_getElem? (i := 20) (by decide +kernel)) (by decide +kernel)
theorem ms_21 : Cond.selects "GrindingCircuitModel" ⟨"GrindingCircuitModel", "ahead", "(II)I"⟩ ⟨"GrindingCircuitModel", "ahead", "(II)I"⟩ ∈ gt := gt_sel (List.mem_of_getElem? (i := 21) (by decide +kernel)) (by decide +kernel)
theorem ms_22 : Cond.selects "GrindingCircuitModel" ⟨"GrindingCircuitModel", "weight", "(I)I"⟩ ⟨"GrindingCircuitModel", "weight", "(I)I"⟩ ∈ gt := gt_sel (List.mem_of_getElem? (i := 22) (by decide +kernel)) (by decide +kernel)
theorem ms_23 : Cond.selects "GrindingCircuitModel" ⟨"GrindingCircuitModel", "minute", "()V"⟩ ⟨"GrindingCircuitModel", "minute", "()V"⟩ ∈ gt := gt_sel (List.mem_of_getElem? (i := 23) (by decide +kernel)) (by decide +kernel)
theorem ms_24 : Cond.selects "GrindingCircuitModel" ⟨"GrindingCircuitModel", "finish", "()V"⟩ ⟨"GrindingCircuitModel", "finish", "()V"⟩ ∈ gt := gt_sel (List.mem_of_getElem? (i := 24) (by decide +kernel)) (by decide +kernel)
theorem ms_25 : Cond.selects "GrindingCircuitModel" ⟨"GrindingCircuitModel", "isLot", "(I)Z"⟩ ⟨"GrindingCircuitModel", "isLot", "(I)Z"⟩ ∈ gt := gt_sel (List.mem_of_getElem? (i := 25) (by decide +kernel)) (by decide +kernel)
theorem inG0 : ∀ w ∈ u_ws RX0 TX0 5, w ∈ gt := fun w h => gt_of ((by decide +kernel : ∀ w ∈ u_ws RX0 TX0 5, w ∈ tables_1) w h) ((by decide +kernel : ∀ w ∈ u_ws RX0 TX0 5, goodWord w = true) w h)
theorem inG1 : ∀ w ∈ u_ws RX1 TX1 2, w ∈ gt := fun w h => gt_of ((by decide +kernel : ∀ w ∈ u_ws RX1 TX1 2, w ∈ tables_1) w h) ((by decide +kernel : ∀ w ∈ u_ws RX1 TX1 2, goodWord w = true) w h)
theorem inG2 : ∀ w ∈ u_ws RX2 TX2 6, w ∈ gt := fun w h => gt_of ((by decide +kernel : ∀ w ∈ u_ws RX2 TX2 6, w ∈ tables_1) w h) ((by decide +kernel : ∀ w ∈ u_ws RX2 TX2 6, goodWord w = true) w h)
theorem inG3 : ∀ w ∈ u_ws RX3 TX3 9, w ∈ gt := fun w h => gt_of ((by decide +kernel : ∀ w ∈ u_ws RX3 TX3 9, w ∈ tables_1) w h) ((by decide +kernel : ∀ w ∈ u_ws RX3 TX3 9, goodWord w = true) w h)
theorem inG4 : ∀ w ∈ u_ws RX4 TX4 4, w ∈ gt := fun w h => gt_of ((by decide +kernel : ∀ w ∈ u_ws RX4 TX4 4, w ∈ tables_1) w h) ((by decide +kernel : ∀ w ∈ u_ws RX4 TX4 4, goodWord w = true) w h)
theorem inG5 : ∀ w ∈ u_ws RX5 TX5 4, w ∈ gt := fun w h => gt_of ((by decide +kernel : ∀ w ∈ u_ws RX5 TX5 4, w ∈ tables_1) w h) ((by decide +kernel : ∀ w ∈ u_ws RX5 TX5 4, goodWord w = true) w h)
theorem inG6 : ∀ w ∈ u_ws RX6 TX6 7, w ∈ gt := fun w h => gt_of ((by decide +kernel : ∀ w ∈ u_ws RX6 TX6 7, w ∈ tables_1) w h) ((by decide +kernel : ∀ w ∈ u_ws RX6 TX6 7, goodWord w = true) w h)
end
section
theorem dX0_init_0 : decode cX0_init 0 = .ok (.aload_n 0, 1) := by decide +kernel
theorem dX0_init_1 : decode cX0_init 1 = .ok (.invokespecial 3, 3) := by decide +kernel
theorem dX0_init_4 : decode cX0_init 4 = .ok (.aload_n 0, 1) := by decide +kernel
theorem dX0_init_5 : decode cX0_init 5 = .ok (.iconst 4, 1) := by decide +kernel
theorem dX0_init_6 : decode cX0_init 6 = .ok (.newarray .int, 2) := by decide +kernel
theorem dX0_init_8 : decode cX0_init 8 = .ok (.putfield 9, 3) := by decide +kernel
theorem dX0_init_11 : decode cX0_init 11 = .ok (.return_, 1) := by decide +kernel
theorem dX0_copyFrom_0 : decode cX0_copyFrom 0 = .ok (.aload_n 1, 1) := by decide +kernel
theorem dX0_copyFrom_1 : decode cX0_copyFrom 1 = .ok (.getfield 9, 3) := by decide +kernel
theorem dX0_copyFrom_4 : decode cX0_copyFrom 4 = .ok (.iconst 0, 1) := by decide +kernel
theorem dX0_copyFrom_5 : decode cX0_copyFrom 5 = .ok (.aload_n 0, 1) := by decide +kernel
theorem dX0_copyFrom_6 : decode cX0_copyFrom 6 = .ok (.getfield 9, 3) := by decide +kernel
theorem dX0_copyFrom_9 : decode cX0_copyFrom 9 = .ok (.iconst 0, 1) := by decide +kernel
theorem dX0_copyFrom_10 : decode cX0_copyFrom 10 = .ok (.iconst 4, 1) := by decide +kernel
theorem dX0_copyFrom_11 : decode cX0_copyFrom 11 = .ok (.invokestatic 15, 3) := by decide +kernel
theorem dX0_copyFrom_14 : decode cX0_copyFrom 14 = .ok (.aload_n 0, 1) := by decide +kernel
theorem dX0_copyFrom_15 : decode cX0_copyFrom 15 = .ok (.aload_n 1, 1) := by decide +kernel
theorem dX0_copyFrom_16 : decode cX0_copyFrom 16 = .ok (.getfield 21, 3) := by decide +kernel
theorem dX0_copyFrom_19 : decode cX0_copyFrom 19 = .ok (.putfield 21, 3) := by decide +kernel
theorem dX0_copyFrom_22 : decode cX0_copyFrom 22 = .ok (.aload_n 0, 1) := by decide +kernel
theorem dX0_copyFrom_23 : decode cX0_copyFrom 23 = .ok (.aload_n 1, 1) := by decide +kernel
theorem dX0_copyFrom_24 : decode cX0_copyFrom 24 = .ok (.getfield 25, 3) := by decide +kernel
theorem dX0_copyFrom_27 : decode cX0_copyFrom 27 = .ok (.putfield 25, 3) := by decide +kernel
theorem dX0_copyFrom_30 : decode cX0_copyFrom 30 = .ok (.aload_n 0, 1) := by decide +kernel
theorem dX0_copyFrom_31 : decode cX0_copyFrom 31 = .ok (.aload_n 1, 1) := by decide +kernel
theorem dX0_copyFrom_32 : decode cX0_copyFrom 32 = .ok (.getfield 28, 3) := by decide +kernel
theorem dX0_copyFrom_35 : decode cX0_copyFrom 35 = .ok (.putfield 28, 3) := by decide +kernel
theorem dX0_copyFrom_38 : decode cX0_copyFrom 38 = .ok (.aload_n 0, 1) := by decide +kernel
theorem dX0_copyFrom_39 : decode cX0_copyFrom 39 = .ok (.aload_n 1, 1) := by decide +kernel
theorem dX0_copyFrom_40 : decode cX0_copyFrom 40 = .ok (.getfield 31, 3) := by decide +kernel
theorem dX0_copyFrom_43 : decode cX0_copyFrom 43 = .ok (.putfield 31, 3) := by decide +kernel
theorem dX0_copyFrom_46 : decode cX0_copyFrom 46 = .ok (.return_, 1) := by decide +kernel
theorem dX0_standsBefore_0 : decode cX0_standsBefore 0 = .ok (.iconst 0, 1) := by decide +kernel
theorem dX0_standsBefore_1 : decode cX0_standsBefore 1 = .ok (.istore_n 3, 1) := by decide +kernel
theorem dX0_standsBefore_2 : decode cX0_standsBefore 2 = .ok (.iload_n 2, 1) := by decide +kernel
theorem dX0_standsBefore_3 : decode cX0_standsBefore 3 = .ok (.iconst 1, 1) := by decide +kernel
theorem dX0_standsBefore_4 : decode cX0_standsBefore 4 = .ok (.if_icmp .ne 22, 3) := by decide +kernel
theorem dX0_standsBefore_7 : decode cX0_standsBefore 7 = .ok (.aload_n 0, 1) := by decide +kernel
theorem dX0_standsBefore_8 : decode cX0_standsBefore 8 = .ok (.getfield 9, 3) := by decide +kernel
theorem dX0_standsBefore_11 : decode cX0_standsBefore 11 = .ok (.invokestatic 34, 3) := by decide +kernel
theorem dX0_standsBefore_14 : decode cX0_standsBefore 14 = .ok (.aload_n 1, 1) := by decide +kernel
theorem dX0_standsBefore_15 : decode cX0_standsBefore 15 = .ok (.getfield 9, 3) := by decide +kernel
theorem dX0_standsBefore_18 : decode cX0_standsBefore 18 = .ok (.invokestatic 34, 3) := by decide +kernel
theorem dX0_standsBefore_21 : decode cX0_standsBefore 21 = .ok (.isub, 1) := by decide +kernel
theorem dX0_standsBefore_22 : decode cX0_standsBefore 22 = .ok (.istore_n 3, 1) := by decide +kernel
theorem dX0_standsBefore_23 : decode cX0_standsBefore 23 = .ok (.goto 14, 3) := by decide +kernel
theorem dX0_standsBefore_26 : decode cX0_standsBefore 26 = .ok (.iload_n 2, 1) := by decide +kernel
theorem dX0_standsBefore_27 : decode cX0_standsBefore 27 = .ok (.iconst 2, 1) := by decide +kernel
theorem dX0_standsBefore_28 : decode cX0_standsBefore 28 = .ok (.if_icmp .ne 9, 3) := by decide +kernel
theorem dX0_standsBefore_31 : decode cX0_standsBefore 31 = .ok (.aload_n 0, 1) := by decide +kernel
theorem dX0_standsBefore_32 : decode cX0_standsBefore 32 = .ok (.aload_n 1, 1) := by decide +kernel
theorem dX0_standsBefore_33 : decode cX0_standsBefore 33 = .ok (.invokevirtual 38, 3) := by decide +kernel
theorem dX0_standsBefore_36 : decode cX0_standsBefore 36 = .ok (.istore_n 3, 1) := by decide +kernel
theorem dX0_standsBefore_37 : decode cX0_standsBefore 37 = .ok (.iload_n 3, 1) := by decide +kernel
theorem dX0_standsBefore_38 : decode cX0_standsBefore 38 = .ok (.ifCond .ne 22, 3) := by decide +kernel
theorem dX0_standsBefore_41 : decode cX0_standsBefore 41 = .ok (.aload_n 0, 1) := by decide +kernel
theorem dX0_standsBefore_42 : decode cX0_standsBefore 42 = .ok (.getfield 28, 3) := by decide +kernel
theorem dX0_standsBefore_45 : decode cX0_standsBefore 45 = .ok (.aload_n 1, 1) := by decide +kernel
theorem dX0_standsBefore_46 : decode cX0_standsBefore 46 = .ok (.getfield 28, 3) := by decide +kernel
theorem dX0_standsBefore_49 : decode cX0_standsBefore 49 = .ok (.if_icmp .ge 7, 3) := by decide +kernel
theorem dX0_standsBefore_52 : decode cX0_standsBefore 52 = .ok (.iconst 1, 1) := by decide +kernel
theorem dX0_standsBefore_53 : decode cX0_standsBefore 53 = .ok (.goto 16, 3) := by decide +kernel
theorem dX0_standsBefore_56 : decode cX0_standsBefore 56 = .ok (.iconst 0, 1) := by decide +kernel
theorem dX0_standsBefore_57 : decode cX0_standsBefore 57 = .ok (.goto 12, 3) := by decide +kernel
theorem dX0_standsBefore_60 : decode cX0_standsBefore 60 = .ok (.iload_n 3, 1) := by decide +kernel
theorem dX0_standsBefore_61 : decode cX0_standsBefore 61 = .ok (.ifCond .le 7, 3) := by decide +kernel
theorem dX0_standsBefore_64 : decode cX0_standsBefore 64 = .ok (.iconst 1, 1) := by decide +kernel
theorem dX0_standsBefore_65 : decode cX0_standsBefore 65 = .ok (.goto 4, 3) := by decide +kernel
theorem dX0_standsBefore_68 : decode cX0_standsBefore 68 = .ok (.iconst 0, 1) := by decide +kernel
theorem dX0_standsBefore_69 : decode cX0_standsBefore 69 = .ok (.ireturn, 1) := by decide +kernel
theorem dX0_coarserBy_0 : decode cX0_coarserBy 0 = .ok (.iconst 0, 1) := by decide +kernel
theorem dX0_coarserBy_1 : decode cX0_coarserBy 1 = .ok (.istore_n 2, 1) := by decide +kernel
theorem dX0_coarserBy_2 : decode cX0_coarserBy 2 = .ok (.iload_n 2, 1) := by decide +kernel
theorem dX0_coarserBy_3 : decode cX0_coarserBy 3 = .ok (.iconst 4, 1) := by decide +kernel
theorem dX0_coarserBy_4 : decode cX0_coarserBy 4 = .ok (.if_icmp .ge 38, 3) := by decide +kernel
theorem dX0_coarserBy_7 : decode cX0_coarserBy 7 = .ok (.aload_n 0, 1) := by decide +kernel
theorem dX0_coarserBy_8 : decode cX0_coarserBy 8 = .ok (.getfield 9, 3) := by decide +kernel
theorem dX0_coarserBy_11 : decode cX0_coarserBy 11 = .ok (.iload_n 2, 1) := by decide +kernel
theorem dX0_coarserBy_12 : decode cX0_coarserBy 12 = .ok (.iaload, 1) := by decide +kernel
theorem dX0_coarserBy_13 : decode cX0_coarserBy 13 = .ok (.aload_n 1, 1) := by decide +kernel
theorem dX0_coarserBy_14 : decode cX0_coarserBy 14 = .ok (.getfield 9, 3) := by decide +kernel
theorem dX0_coarserBy_17 : decode cX0_coarserBy 17 = .ok (.iload_n 2, 1) := by decide +kernel
theorem dX0_coarserBy_18 : decode cX0_coarserBy 18 = .ok (.iaload, 1) := by decide +kernel
theorem dX0_coarserBy_19 : decode cX0_coarserBy 19 = .ok (.if_icmp .eq 17, 3) := by decide +kernel
theorem dX0_coarserBy_22 : decode cX0_coarserBy 22 = .ok (.aload_n 0, 1) := by decide +kernel
theorem dX0_coarserBy_23 : decode cX0_coarserBy 23 = .ok (.getfield 9, 3) := by decide +kernel
theorem dX0_coarserBy_26 : decode cX0_coarserBy 26 = .ok (.iload_n 2, 1) := by decide +kernel
theorem dX0_coarserBy_27 : decode cX0_coarserBy 27 = .ok (.iaload, 1) := by decide +kernel
theorem dX0_coarserBy_28 : decode cX0_coarserBy 28 = .ok (.aload_n 1, 1) := by decide +kernel
theorem dX0_coarserBy_29 : decode cX0_coarserBy 29 = .ok (.getfield 9, 3) := by decide +kernel
theorem dX0_coarserBy_32 : decode cX0_coarserBy 32 = .ok (.iload_n 2, 1) := by decide +kernel
theorem dX0_coarserBy_33 : decode cX0_coarserBy 33 = .ok (.iaload, 1) := by decide +kernel
theorem dX0_coarserBy_34 : decode cX0_coarserBy 34 = .ok (.isub, 1) := by decide +kernel
theorem dX0_coarserBy_35 : decode cX0_coarserBy 35 = .ok (.ireturn, 1) := by decide +kernel
theorem dX0_coarserBy_36 : decode cX0_coarserBy 36 = .ok (.iinc 2 1, 3) := by decide +kernel
theorem dX0_coarserBy_39 : decode cX0_coarserBy 39 = .ok (.goto (-37), 3) := by decide +kernel
theorem dX0_coarserBy_42 : decode cX0_coarserBy 42 = .ok (.iconst 0, 1) := by decide +kernel
theorem dX0_coarserBy_43 : decode cX0_coarserBy 43 = .ok (.ireturn, 1) := by decide +kernel
theorem dX0_energyToGrind_0 : decode cX0_energyToGrind 0 = .ok (.iconst 0, 1) := by decide +kernel
theorem dX0_energyToGrind_1 : decode cX0_energyToGrind 1 = .ok (.istore_n 2, 1) := by decide +kernel
theorem dX0_energyToGrind_2 : decode cX0_energyToGrind 2 = .ok (.iconst 0, 1) := by decide +kernel
theorem dX0_energyToGrind_3 : decode cX0_energyToGrind 3 = .ok (.istore_n 3, 1) := by decide +kernel
theorem dX0_energyToGrind_4 : decode cX0_energyToGrind 4 = .ok (.iload_n 3, 1) := by decide +kernel
theorem dX0_energyToGrind_5 : decode cX0_energyToGrind 5 = .ok (.iconst 4, 1) := by decide +kernel
theorem dX0_energyToGrind_6 : decode cX0_energyToGrind 6 = .ok (.if_icmp .ge 22, 3) := by decide +kernel
theorem dX0_energyToGrind_9 : decode cX0_energyToGrind 9 = .ok (.iload_n 2, 1) := by decide +kernel
theorem dX0_energyToGrind_10 : decode cX0_energyToGrind 10 = .ok (.aload_n 1, 1) := by decide +kernel
theorem dX0_energyToGrind_11 : decode cX0_energyToGrind 11 = .ok (.iload_n 3, 1) := by decide +kernel
theorem dX0_energyToGrind_12 : decode cX0_energyToGrind 12 = .ok (.iaload, 1) := by decide +kernel
theorem dX0_energyToGrind_13 : decode cX0_energyToGrind 13 = .ok (.aload_n 0, 1) := by decide +kernel
theorem dX0_energyToGrind_14 : decode cX0_energyToGrind 14 = .ok (.getfield 9, 3) := by decide +kernel
theorem dX0_energyToGrind_17 : decode cX0_energyToGrind 17 = .ok (.iload_n 3, 1) := by decide +kernel
theorem dX0_energyToGrind_18 : decode cX0_energyToGrind 18 = .ok (.iaload, 1) := by decide +kernel
theorem dX0_energyToGrind_19 : decode cX0_energyToGrind 19 = .ok (.imul, 1) := by decide +kernel
theorem dX0_energyToGrind_20 : decode cX0_energyToGrind 20 = .ok (.iadd, 1) := by decide +kernel
theorem dX0_energyToGrind_21 : decode cX0_energyToGrind 21 = .ok (.istore_n 2, 1) := by decide +kernel
theorem dX0_energyToGrind_22 : decode cX0_energyToGrind 22 = .ok (.iinc 3 1, 3) := by decide +kernel
theorem dX0_energyToGrind_25 : decode cX0_energyToGrind 25 = .ok (.goto (-21), 3) := by decide +kernel
theorem dX0_energyToGrind_28 : decode cX0_energyToGrind 28 = .ok (.iload_n 2, 1) := by decide +kernel
theorem dX0_energyToGrind_29 : decode cX0_energyToGrind 29 = .ok (.ireturn, 1) := by decide +kernel
theorem dX0_breakOre_0 : decode cX0_breakOre 0 = .ok (.iconst 3, 1) := by decide +kernel
theorem dX0_breakOre_1 : decode cX0_breakOre 1 = .ok (.istore_n 2, 1) := by decide +kernel
theorem dX0_breakOre_2 : decode cX0_breakOre 2 = .ok (.iload_n 2, 1) := by decide +kernel
theorem dX0_breakOre_3 : decode cX0_breakOre 3 = .ok (.ifCond .lt 69, 3) := by decide +kernel
theorem dX0_breakOre_6 : decode cX0_breakOre 6 = .ok (.aload_n 0, 1) := by decide +kernel
theorem dX0_breakOre_7 : decode cX0_breakOre 7 = .ok (.getfield 9, 3) := by decide +kernel
theorem dX0_breakOre_10 : decode cX0_breakOre 10 = .ok (.iload_n 2, 1) := by decide +kernel
theorem dX0_breakOre_11 : decode cX0_breakOre 11 = .ok (.iaload, 1) := by decide +kernel
theorem dX0_breakOre_12 : decode cX0_breakOre 12 = .ok (.istore_n 3, 1) := by decide +kernel
theorem dX0_breakOre_13 : decode cX0_breakOre 13 = .ok (.iload_n 2, 1) := by decide +kernel
theorem dX0_breakOre_14 : decode cX0_breakOre 14 = .ok (.iconst 1, 1) := by decide +kernel
theorem dX0_breakOre_15 : decode cX0_breakOre 15 = .ok (.iadd, 1) := by decide +kernel
theorem dX0_breakOre_16 : decode cX0_breakOre 16 = .ok (.istore 4, 2) := by decide +kernel
theorem dX0_breakOre_18 : decode cX0_breakOre 18 = .ok (.iload 4, 2) := by decide +kernel
theorem dX0_breakOre_20 : decode cX0_breakOre 20 = .ok (.iconst 4, 1) := by decide +kernel
theorem dX0_breakOre_21 : decode cX0_breakOre 21 = .ok (.if_icmp .ge 45, 3) := by decide +kernel
theorem dX0_breakOre_24 : decode cX0_breakOre 24 = .ok (.iload_n 3, 1) := by decide +kernel
theorem dX0_breakOre_25 : decode cX0_breakOre 25 = .ok (.aload_n 1, 1) := by decide +kernel
theorem dX0_breakOre_26 : decode cX0_breakOre 26 = .ok (.iload_n 2, 1) := by decide +kernel
theorem dX0_breakOre_27 : decode cX0_breakOre 27 = .ok (.aaload, 1) := by decide +kernel
theorem dX0_breakOre_28 : decode cX0_breakOre 28 = .ok (.iload 4, 2) := by decide +kernel
theorem dX0_breakOre_30 : decode cX0_breakOre 30 = .ok (.iaload, 1) := by decide +kernel
theorem dX0_breakOre_31 : decode cX0_breakOre 31 = .ok (.imul, 1) := by decide +kernel
theorem dX0_breakOre_32 : decode cX0_breakOre 32 = .ok (.bipush 10, 2) := by decide +kernel
theorem dX0_breakOre_34 : decode cX0_breakOre 34 = .ok (.idiv, 1) := by decide +kernel
theorem dX0_breakOre_35 : decode cX0_breakOre 35 = .ok (.istore 5, 2) := by decide +kernel
theorem dX0_breakOre_37 : decode cX0_breakOre 37 = .ok (.aload_n 0, 1) := by decide +kernel
theorem dX0_breakOre_38 : decode cX0_breakOre 38 = .ok (.getfield 9, 3) := by decide +kernel
theorem dX0_breakOre_41 : decode cX0_breakOre 41 = .ok (.iload 4, 2) := by decide +kernel
theorem dX0_breakOre_43 : decode cX0_breakOre 43 = .ok (.dup2, 1) := by decide +kernel
theorem dX0_breakOre_44 : decode cX0_breakOre 44 = .ok (.iaload, 1) := by decide +kernel
theorem dX0_breakOre_45 : decode cX0_breakOre 45 = .ok (.iload 5, 2) := by decide +kernel
theorem dX0_breakOre_47 : decode cX0_breakOre 47 = .ok (.iadd, 1) := by decide +kernel
theorem dX0_breakOre_48 : decode cX0_breakOre 48 = .ok (.iastore, 1) := by decide +kernel
theorem dX0_breakOre_49 : decode cX0_breakOre 49 = .ok (.aload_n 0, 1) := by decide +kernel
theorem dX0_breakOre_50 : decode cX0_breakOre 50 = .ok (.getfield 9, 3) := by decide +kernel
theorem dX0_breakOre_53 : decode cX0_breakOre 53 = .ok (.iload_n 2, 1) := by decide +kernel
theorem dX0_breakOre_54 : decode cX0_breakOre 54 = .ok (.dup2, 1) := by decide +kernel
theorem dX0_breakOre_55 : decode cX0_breakOre 55 = .ok (.iaload, 1) := by decide +kernel
theorem dX0_breakOre_56 : decode cX0_breakOre 56 = .ok (.iload 5, 2) := by decide +kernel
theorem dX0_breakOre_58 : decode cX0_breakOre 58 = .ok (.isub, 1) := by decide +kernel
theorem dX0_breakOre_59 : decode cX0_breakOre 59 = .ok (.iastore, 1) := by decide +kernel
theorem dX0_breakOre_60 : decode cX0_breakOre 60 = .ok (.iinc 4 1, 3) := by decide +kernel
theorem dX0_breakOre_63 : decode cX0_breakOre 63 = .ok (.goto (-45), 3) := by decide +kernel
theorem dX0_breakOre_66 : decode cX0_breakOre 66 = .ok (.iinc 2 (-1), 3) := by decide +kernel
theorem dX0_breakOre_69 : decode cX0_breakOre 69 = .ok (.goto (-67), 3) := by decide +kernel
theorem dX0_breakOre_72 : decode cX0_breakOre 72 = .ok (.return_, 1) := by decide +kernel
theorem dX0_classify_0 : decode cX0_classify 0 = .ok (.iconst 0, 1) := by decide +kernel
theorem dX0_classify_1 : decode cX0_classify 1 = .ok (.istore_n 3, 1) := by decide +kernel
theorem dX0_classify_2 : decode cX0_classify 2 = .ok (.iload_n 3, 1) := by decide +kernel
theorem dX0_classify_3 : decode cX0_classify 3 = .ok (.iconst 4, 1) := by decide +kernel
theorem dX0_classify_4 : decode cX0_classify 4 = .ok (.if_icmp .ge 47, 3) := by decide +kernel
theorem dX0_classify_7 : decode cX0_classify 7 = .ok (.aload_n 0, 1) := by decide +kernel
theorem dX0_classify_8 : decode cX0_classify 8 = .ok (.getfield 9, 3) := by decide +kernel
theorem dX0_classify_11 : decode cX0_classify 11 = .ok (.iload_n 3, 1) := by decide +kernel
theorem dX0_classify_12 : decode cX0_classify 12 = .ok (.iaload, 1) := by decide +kernel
theorem dX0_classify_13 : decode cX0_classify 13 = .ok (.aload_n 1, 1) := by decide +kernel
theorem dX0_classify_14 : decode cX0_classify 14 = .ok (.iload_n 3, 1) := by decide +kernel
theorem dX0_classify_15 : decode cX0_classify 15 = .ok (.iaload, 1) := by decide +kernel
theorem dX0_classify_16 : decode cX0_classify 16 = .ok (.imul, 1) := by decide +kernel
theorem dX0_classify_17 : decode cX0_classify 17 = .ok (.bipush 10, 2) := by decide +kernel
theorem dX0_classify_19 : decode cX0_classify 19 = .ok (.idiv, 1) := by decide +kernel
theorem dX0_classify_20 : decode cX0_classify 20 = .ok (.istore 4, 2) := by decide +kernel
theorem dX0_classify_22 : decode cX0_classify 22 = .ok (.aload_n 2, 1) := by decide +kernel
theorem dX0_classify_23 : decode cX0_classify 23 = .ok (.iload_n 3, 1) := by decide +kernel
theorem dX0_classify_24 : decode cX0_classify 24 = .ok (.dup2, 1) := by decide +kernel
theorem dX0_classify_25 : decode cX0_classify 25 = .ok (.iaload, 1) := by decide +kernel
theorem dX0_classify_26 : decode cX0_classify 26 = .ok (.aload_n 0, 1) := by decide +kernel
theorem dX0_classify_27 : decode cX0_classify 27 = .ok (.getfield 9, 3) := by decide +kernel
theorem dX0_classify_30 : decode cX0_classify 30 = .ok (.iload_n 3, 1) := by decide +kernel
theorem dX0_classify_31 : decode cX0_classify 31 = .ok (.iaload, 1) := by decide +kernel
theorem dX0_classify_32 : decode cX0_classify 32 = .ok (.iload 4, 2) := by decide +kernel
theorem dX0_classify_34 : decode cX0_classify 34 = .ok (.isub, 1) := by decide +kernel
theorem dX0_classify_35 : decode cX0_classify 35 = .ok (.iadd, 1) := by decide +kernel
theorem dX0_classify_36 : decode cX0_classify 36 = .ok (.iastore, 1) := by decide +kernel
theorem dX0_classify_37 : decode cX0_classify 37 = .ok (.aload_n 0, 1) := by decide +kernel
theorem dX0_classify_38 : decode cX0_classify 38 = .ok (.getfield 9, 3) := by decide +kernel
theorem dX0_classify_41 : decode cX0_classify 41 = .ok (.iload_n 3, 1) := by decide +kernel
theorem dX0_classify_42 : decode cX0_classify 42 = .ok (.iload 4, 2) := by decide +kernel
theorem dX0_classify_44 : decode cX0_classify 44 = .ok (.iastore, 1) := by decide +kernel
theorem dX0_classify_45 : decode cX0_classify 45 = .ok (.iinc 3 1, 3) := by decide +kernel
theorem dX0_classify_48 : decode cX0_classify 48 = .ok (.goto (-46), 3) := by decide +kernel
theorem dX0_classify_51 : decode cX0_classify 51 = .ok (.return_, 1) := by decide +kernel
theorem dX1_init_0 : decode cX1_init 0 = .ok (.aload_n 0, 1) := by decide +kernel
theorem dX1_init_1 : decode cX1_init 1 = .ok (.invokespecial 1, 3) := by decide +kernel
theorem dX1_init_4 : decode cX1_init 4 = .ok (.aload_n 0, 1) := by decide +kernel
theorem dX1_init_5 : decode cX1_init 5 = .ok (.new 7, 3) := by decide +kernel
theorem dX1_init_8 : decode cX1_init 8 = .ok (.dup, 1) := by decide +kernel
theorem dX1_init_9 : decode cX1_init 9 = .ok (.invokespecial 9, 3) := by decide +kernel
theorem dX1_init_12 : decode cX1_init 12 = .ok (.putfield 10, 3) := by decide +kernel
theorem dX1_init_15 : decode cX1_init 15 = .ok (.aload_n 0, 1) := by decide +kernel
theorem dX1_init_16 : decode cX1_init 16 = .ok (.new 16, 3) := by decide +kernel
theorem dX1_init_19 : decode cX1_init 19 = .ok (.dup, 1) := by decide +kernel
theorem dX1_init_20 : decode cX1_init 20 = .ok (.invokespecial 18, 3) := by decide +kernel
theorem dX1_init_23 : decode cX1_init 23 = .ok (.putfield 19, 3) := by decide +kernel
theorem dX1_init_26 : decode cX1_init 26 = .ok (.return_, 1) := by decide +kernel
theorem dX1_copyFrom_0 : decode cX1_copyFrom 0 = .ok (.aload_n 0, 1) := by decide +kernel
theorem dX1_copyFrom_1 : decode cX1_copyFrom 1 = .ok (.getfield 10, 3) := by decide +kernel
theorem dX1_copyFrom_4 : decode cX1_copyFrom 4 = .ok (.aload_n 1, 1) := by decide +kernel
theorem dX1_copyFrom_5 : decode cX1_copyFrom 5 = .ok (.getfield 10, 3) := by decide +kernel
theorem dX1_copyFrom_8 : decode cX1_copyFrom 8 = .ok (.invokevirtual 23, 3) := by decide +kernel
theorem dX1_copyFrom_11 : decode cX1_copyFrom 11 = .ok (.aload_n 0, 1) := by decide +kernel
theorem dX1_copyFrom_12 : decode cX1_copyFrom 12 = .ok (.getfield 19, 3) := by decide +kernel
theorem dX1_copyFrom_15 : decode cX1_copyFrom 15 = .ok (.aload_n 1, 1) := by decide +kernel
theorem dX1_copyFrom_16 : decode cX1_copyFrom 16 = .ok (.getfield 19, 3) := by decide +kernel
theorem dX1_copyFrom_19 : decode cX1_copyFrom 19 = .ok (.invokevirtual 27, 3) := by decide +kernel
theorem dX1_copyFrom_22 : decode cX1_copyFrom 22 = .ok (.return_, 1) := by decide +kernel
theorem dX2_init_0 : decode cX2_init 0 = .ok (.aload_n 0, 1) := by decide +kernel
theorem dX2_init_1 : decode cX2_init 1 = .ok (.invokespecial 3, 3) := by decide +kernel
theorem dX2_init_4 : decode cX2_init 4 = .ok (.aload_n 0, 1) := by decide +kernel
theorem dX2_init_5 : decode cX2_init 5 = .ok (.iconst 4, 1) := by decide +kernel
theorem dX2_init_6 : decode cX2_init 6 = .ok (.iconst 4, 1) := by decide +kernel
theorem dX2_init_7 : decode cX2_init 7 = .ok (.multianewarray 9 2, 4) := by decide +kernel
theorem dX2_init_11 : decode cX2_init 11 = .ok (.putfield 11, 3) := by decide +kernel
theorem dX2_init_14 : decode cX2_init 14 = .ok (.aload_n 0, 1) := by decide +kernel
theorem dX2_init_15 : decode cX2_init 15 = .ok (.iconst 4, 1) := by decide +kernel
theorem dX2_init_16 : decode cX2_init 16 = .ok (.newarray .int, 2) := by decide +kernel
theorem dX2_init_18 : decode cX2_init 18 = .ok (.putfield 16, 3) := by decide +kernel
theorem dX2_init_21 : decode cX2_init 21 = .ok (.aload_n 0, 1) := by decide +kernel
theorem dX2_init_22 : decode cX2_init 22 = .ok (.iconst 4, 1) := by decide +kernel
theorem dX2_init_23 : decode cX2_init 23 = .ok (.newarray .int, 2) := by decide +kernel
theorem dX2_init_25 : decode cX2_init 25 = .ok (.putfield 20, 3) := by decide +kernel
theorem dX2_init_28 : decode cX2_init 28 = .ok (.aload_n 0, 1) := by decide +kernel
theorem dX2_init_29 : decode cX2_init 29 = .ok (.iconst 4, 1) := by decide +kernel
theorem dX2_init_30 : decode cX2_init 30 = .ok (.newarray .int, 2) := by decide +kernel
theorem dX2_init_32 : decode cX2_init 32 = .ok (.putfield 23, 3) := by decide +kernel
theorem dX2_init_35 : decode cX2_init 35 = .ok (.aload_n 0, 1) := by decide +kernel
theorem dX2_init_36 : decode cX2_init 36 = .ok (.bipush 10, 2) := by decide +kernel
theorem dX2_init_38 : decode cX2_init 38 = .ok (.putfield 26, 3) := by decide +kernel
theorem dX2_init_41 : decode cX2_init 41 = .ok (.aload_n 0, 1) := by decide +kernel
theorem dX2_init_42 : decode cX2_init 42 = .ok (.iconst 0, 1) := by decide +kernel
theorem dX2_init_43 : decode cX2_init 43 = .ok (.putfield 30, 3) := by decide +kernel
theorem dX2_init_46 : decode cX2_init 46 = .ok (.iconst 0, 1) := by decide +kernel
theorem dX2_init_47 : decode cX2_init 47 = .ok (.istore_n 1, 1) := by decide +kernel
theorem dX2_init_48 : decode cX2_init 48 = .ok (.iload_n 1, 1) := by decide +kernel
theorem dX2_init_49 : decode cX2_init 49 = .ok (.iconst 4, 1) := by decide +kernel
theorem dX2_init_50 : decode cX2_init 50 = .ok (.if_icmp .ge 26, 3) := by decide +kernel
theorem dX2_init_53 : decode cX2_init 53 = .ok (.aload_n 0, 1) := by decide +kernel
theorem dX2_init_54 : decode cX2_init 54 = .ok (.getfield 11, 3) := by decide +kernel
theorem dX2_init_57 : decode cX2_init 57 = .ok (.iload_n 1, 1) := by decide +kernel
theorem dX2_init_58 : decode cX2_init 58 = .ok (.aaload, 1) := by decide +kernel
theorem dX2_init_59 : decode cX2_init 59 = .ok (.iload_n 1, 1) := by decide +kernel
theorem dX2_init_60 : decode cX2_init 60 = .ok (.bipush 10, 2) := by decide +kernel
theorem dX2_init_62 : decode cX2_init 62 = .ok (.iastore, 1) := by decide +kernel
theorem dX2_init_63 : decode cX2_init 63 = .ok (.aload_n 0, 1) := by decide +kernel
theorem dX2_init_64 : decode cX2_init 64 = .ok (.getfield 20, 3) := by decide +kernel
theorem dX2_init_67 : decode cX2_init 67 = .ok (.iload_n 1, 1) := by decide +kernel
theorem dX2_init_68 : decode cX2_init 68 = .ok (.iconst 1, 1) := by decide +kernel
theorem dX2_init_69 : decode cX2_init 69 = .ok (.iastore, 1) := by decide +kernel
theorem dX2_init_70 : decode cX2_init 70 = .ok (.iinc 1 1, 3) := by decide +kernel
theorem dX2_init_73 : decode cX2_init 73 = .ok (.goto (-25), 3) := by decide +kernel
theorem dX2_init_76 : decode cX2_init 76 = .ok (.return_, 1) := by decide +kernel
theorem dX2_putShare_0 : decode cX2_putShare 0 = .ok (.iload_n 1, 1) := by decide +kernel
theorem dX2_putShare_1 : decode cX2_putShare 1 = .ok (.invokestatic 33, 3) := by decide +kernel
theorem dX2_putShare_4 : decode cX2_putShare 4 = .ok (.ifCond .eq 19, 3) := by decide +kernel
theorem dX2_putShare_7 : decode cX2_putShare 7 = .ok (.iload_n 2, 1) := by decide +kernel
theorem dX2_putShare_8 : decode cX2_putShare 8 = .ok (.invokestatic 33, 3) := by decide +kernel
theorem dX2_putShare_11 : decode cX2_putShare 11 = .ok (.ifCond .eq 12, 3) := by decide +kernel
theorem dX2_putShare_14 : decode cX2_putShare 14 = .ok (.aload_n 0, 1) := by decide +kernel
theorem dX2_putShare_15 : decode cX2_putShare 15 = .ok (.getfield 11, 3) := by decide +kernel
theorem dX2_putShare_18 : decode cX2_putShare 18 = .ok (.iload_n 1, 1) := by decide +kernel
theorem dX2_putShare_19 : decode cX2_putShare 19 = .ok (.aaload, 1) := by decide +kernel
theorem dX2_putShare_20 : decode cX2_putShare 20 = .ok (.iload_n 2, 1) := by decide +kernel
theorem dX2_putShare_21 : decode cX2_putShare 21 = .ok (.iload_n 3, 1) := by decide +kernel
theorem dX2_putShare_22 : decode cX2_putShare 22 = .ok (.iastore, 1) := by decide +kernel
theorem dX2_putShare_23 : decode cX2_putShare 23 = .ok (.return_, 1) := by decide +kernel
theorem dX2_copyFrom_0 : decode cX2_copyFrom 0 = .ok (.iconst 0, 1) := by decide +kernel
theorem dX2_copyFrom_1 : decode cX2_copyFrom 1 = .ok (.istore_n 2, 1) := by decide +kernel
theorem dX2_copyFrom_2 : decode cX2_copyFrom 2 = .ok (.iload_n 2, 1) := by decide +kernel
theorem dX2_copyFrom_3 : decode cX2_copyFrom 3 = .ok (.iconst 4, 1) := by decide +kernel
theorem dX2_copyFrom_4 : decode cX2_copyFrom 4 = .ok (.if_icmp .ge 27, 3) := by decide +kernel
theorem dX2_copyFrom_7 : decode cX2_copyFrom 7 = .ok (.aload_n 1, 1) := by decide +kernel
theorem dX2_copyFrom_8 : decode cX2_copyFrom 8 = .ok (.getfield 11, 3) := by decide +kernel
theorem dX2_copyFrom_11 : decode cX2_copyFrom 11 = .ok (.iload_n 2, 1) := by decide +kernel
theorem dX2_copyFrom_12 : decode cX2_copyFrom 12 = .ok (.aaload, 1) := by decide +kernel
theorem dX2_copyFrom_13 : decode cX2_copyFrom 13 = .ok (.iconst 0, 1) := by decide +kernel
theorem dX2_copyFrom_14 : decode cX2_copyFrom 14 = .ok (.aload_n 0, 1) := by decide +kernel
theorem dX2_copyFrom_15 : decode cX2_copyFrom 15 = .ok (.getfield 11, 3) := by decide +kernel
theorem dX2_copyFrom_18 : decode cX2_copyFrom 18 = .ok (.iload_n 2, 1) := by decide +kernel
theorem dX2_copyFrom_19 : decode cX2_copyFrom 19 = .ok (.aaload, 1) := by decide +kernel
theorem dX2_copyFrom_20 : decode cX2_copyFrom 20 = .ok (.iconst 0, 1) := by decide +kernel
theorem dX2_copyFrom_21 : decode cX2_copyFrom 21 = .ok (.iconst 4, 1) := by decide +kernel
theorem dX2_copyFrom_22 : decode cX2_copyFrom 22 = .ok (.invokestatic 37, 3) := by decide +kernel
theorem dX2_copyFrom_25 : decode cX2_copyFrom 25 = .ok (.iinc 2 1, 3) := by decide +kernel
theorem dX2_copyFrom_28 : decode cX2_copyFrom 28 = .ok (.goto (-26), 3) := by decide +kernel
theorem dX2_copyFrom_31 : decode cX2_copyFrom 31 = .ok (.aload_n 1, 1) := by decide +kernel
theorem dX2_copyFrom_32 : decode cX2_copyFrom 32 = .ok (.getfield 16, 3) := by decide +kernel
theorem dX2_copyFrom_35 : decode cX2_copyFrom 35 = .ok (.iconst 0, 1) := by decide +kernel
theorem dX2_copyFrom_36 : decode cX2_copyFrom 36 = .ok (.aload_n 0, 1) := by decide +kernel
theorem dX2_copyFrom_37 : decode cX2_copyFrom 37 = .ok (.getfield 16, 3) := by decide +kernel
theorem dX2_copyFrom_40 : decode cX2_copyFrom 40 = .ok (.iconst 0, 1) := by decide +kernel
theorem dX2_copyFrom_41 : decode cX2_copyFrom 41 = .ok (.iconst 4, 1) := by decide +kernel
theorem dX2_copyFrom_42 : decode cX2_copyFrom 42 = .ok (.invokestatic 37, 3) := by decide +kernel
theorem dX2_copyFrom_45 : decode cX2_copyFrom 45 = .ok (.aload_n 1, 1) := by decide +kernel
theorem dX2_copyFrom_46 : decode cX2_copyFrom 46 = .ok (.getfield 20, 3) := by decide +kernel
theorem dX2_copyFrom_49 : decode cX2_copyFrom 49 = .ok (.iconst 0, 1) := by decide +kernel
theorem dX2_copyFrom_50 : decode cX2_copyFrom 50 = .ok (.aload_n 0, 1) := by decide +kernel
theorem dX2_copyFrom_51 : decode cX2_copyFrom 51 = .ok (.getfield 20, 3) := by decide +kernel
theorem dX2_copyFrom_54 : decode cX2_copyFrom 54 = .ok (.iconst 0, 1) := by decide +kernel
theorem dX2_copyFrom_55 : decode cX2_copyFrom 55 = .ok (.iconst 4, 1) := by decide +kernel
theorem dX2_copyFrom_56 : decode cX2_copyFrom 56 = .ok (.invokestatic 37, 3) := by decide +kernel
theorem dX2_copyFrom_59 : decode cX2_copyFrom 59 = .ok (.aload_n 1, 1) := by decide +kernel
theorem dX2_copyFrom_60 : decode cX2_copyFrom 60 = .ok (.getfield 23, 3) := by decide +kernel
theorem dX2_copyFrom_63 : decode cX2_copyFrom 63 = .ok (.iconst 0, 1) := by decide +kernel
theorem dX2_copyFrom_64 : decode cX2_copyFrom 64 = .ok (.aload_n 0, 1) := by decide +kernel
theorem dX2_copyFrom_65 : decode cX2_copyFrom 65 = .ok (.getfield 23, 3) := by decide +kernel
theorem dX2_copyFrom_68 : decode cX2_copyFrom 68 = .ok (.iconst 0, 1) := by decide +kernel
theorem dX2_copyFrom_69 : decode cX2_copyFrom 69 = .ok (.iconst 4, 1) := by decide +kernel
theorem dX2_copyFrom_70 : decode cX2_copyFrom 70 = .ok (.invokestatic 37, 3) := by decide +kernel
theorem dX2_copyFrom_73 : decode cX2_copyFrom 73 = .ok (.aload_n 0, 1) := by decide +kernel
theorem dX2_copyFrom_74 : decode cX2_copyFrom 74 = .ok (.aload_n 1, 1) := by decide +kernel
theorem dX2_copyFrom_75 : decode cX2_copyFrom 75 = .ok (.getfield 26, 3) := by decide +kernel
theorem dX2_copyFrom_78 : decode cX2_copyFrom 78 = .ok (.putfield 26, 3) := by decide +kernel
theorem dX2_copyFrom_81 : decode cX2_copyFrom 81 = .ok (.aload_n 0, 1) := by decide +kernel
theorem dX2_copyFrom_82 : decode cX2_copyFrom 82 = .ok (.aload_n 1, 1) := by decide +kernel
theorem dX2_copyFrom_83 : decode cX2_copyFrom 83 = .ok (.getfield 30, 3) := by decide +kernel
theorem dX2_copyFrom_86 : decode cX2_copyFrom 86 = .ok (.putfield 30, 3) := by decide +kernel
theorem dX2_copyFrom_89 : decode cX2_copyFrom 89 = .ok (.return_, 1) := by decide +kernel
theorem dX3_init_0 : decode cX3_init 0 = .ok (.aload_n 0, 1) := by decide +kernel
theorem dX3_init_1 : decode cX3_init 1 = .ok (.invokespecial 3, 3) := by decide +kernel
theorem dX3_init_4 : decode cX3_init 4 = .ok (.aload_n 0, 1) := by decide +kernel
theorem dX3_init_5 : decode cX3_init 5 = .ok (.bipush 40, 2) := by decide +kernel
theorem dX3_init_7 : decode cX3_init 7 = .ok (.anewarray 9, 3) := by decide +kernel
theorem dX3_init_10 : decode cX3_init 10 = .ok (.putfield 11, 3) := by decide +kernel
theorem dX3_init_13 : decode cX3_init 13 = .ok (.aload_n 0, 1) := by decide +kernel
theorem dX3_init_14 : decode cX3_init 14 = .ok (.iconst 4, 1) := by decide +kernel
theorem dX3_init_15 : decode cX3_init 15 = .ok (.newarray .int, 2) := by decide +kernel
theorem dX3_init_17 : decode cX3_init 17 = .ok (.putfield 17, 3) := by decide +kernel
theorem dX3_init_20 : decode cX3_init 20 = .ok (.aload_n 0, 1) := by decide +kernel
theorem dX3_init_21 : decode cX3_init 21 = .ok (.iconst (-1), 1) := by decide +kernel
theorem dX3_init_22 : decode cX3_init 22 = .ok (.putfield 21, 3) := by decide +kernel
theorem dX3_init_25 : decode cX3_init 25 = .ok (.iconst 0, 1) := by decide +kernel
theorem dX3_init_26 : decode cX3_init 26 = .ok (.istore_n 1, 1) := by decide +kernel
theorem dX3_init_27 : decode cX3_init 27 = .ok (.iload_n 1, 1) := by decide +kernel
theorem dX3_init_28 : decode cX3_init 28 = .ok (.bipush 40, 2) := by decide +kernel
theorem dX3_init_30 : decode cX3_init 30 = .ok (.if_icmp .ge 22, 3) := by decide +kernel
theorem dX3_init_33 : decode cX3_init 33 = .ok (.aload_n 0, 1) := by decide +kernel
theorem dX3_init_34 : decode cX3_init 34 = .ok (.getfield 11, 3) := by decide +kernel
theorem dX3_init_37 : decode cX3_init 37 = .ok (.iload_n 1, 1) := by decide +kernel
theorem dX3_init_38 : decode cX3_init 38 = .ok (.new 9, 3) := by decide +kernel
theorem dX3_init_41 : decode cX3_init 41 = .ok (.dup, 1) := by decide +kernel
theorem dX3_init_42 : decode cX3_init 42 = .ok (.invokespecial 25, 3) := by decide +kernel
theorem dX3_init_45 : decode cX3_init 45 = .ok (.aastore, 1) := by decide +kernel
theorem dX3_init_46 : decode cX3_init 46 = .ok (.iinc 1 1, 3) := by decide +kernel
theorem dX3_init_49 : decode cX3_init 49 = .ok (.goto (-22), 3) := by decide +kernel
theorem dX3_init_52 : decode cX3_init 52 = .ok (.return_, 1) := by decide +kernel
theorem dX3_copyFrom_0 : decode cX3_copyFrom 0 = .ok (.iconst 0, 1) := by decide +kernel
theorem dX3_copyFrom_1 : decode cX3_copyFrom 1 = .ok (.istore_n 2, 1) := by decide +kernel
theorem dX3_copyFrom_2 : decode cX3_copyFrom 2 = .ok (.iload_n 2, 1) := by decide +kernel
theorem dX3_copyFrom_3 : decode cX3_copyFrom 3 = .ok (.aload_n 1, 1) := by decide +kernel
theorem dX3_copyFrom_4 : decode cX3_copyFrom 4 = .ok (.getfield 26, 3) := by decide +kernel
theorem dX3_copyFrom_7 : decode cX3_copyFrom 7 = .ok (.if_icmp .ge 24, 3) := by decide +kernel
theorem dX3_copyFrom_10 : decode cX3_copyFrom 10 = .ok (.aload_n 0, 1) := by decide +kernel
theorem dX3_copyFrom_11 : decode cX3_copyFrom 11 = .ok (.getfield 11, 3) := by decide +kernel
theorem dX3_copyFrom_14 : decode cX3_copyFrom 14 = .ok (.iload_n 2, 1) := by decide +kernel
theorem dX3_copyFrom_15 : decode cX3_copyFrom 15 = .ok (.aaload, 1) := by decide +kernel
theorem dX3_copyFrom_16 : decode cX3_copyFrom 16 = .ok (.aload_n 1, 1) := by decide +kernel
theorem dX3_copyFrom_17 : decode cX3_copyFrom 17 = .ok (.getfield 11, 3) := by decide +kernel
theorem dX3_copyFrom_20 : decode cX3_copyFrom 20 = .ok (.iload_n 2, 1) := by decide +kernel
theorem dX3_copyFrom_21 : decode cX3_copyFrom 21 = .ok (.aaload, 1) := by decide +kernel
theorem dX3_copyFrom_22 : decode cX3_copyFrom 22 = .ok (.invokevirtual 29, 3) := by decide +kernel
theorem dX3_copyFrom_25 : decode cX3_copyFrom 25 = .ok (.iinc 2 1, 3) := by decide +kernel
theorem dX3_copyFrom_28 : decode cX3_copyFrom 28 = .ok (.goto (-26), 3) := by decide +kernel
theorem dX3_copyFrom_31 : decode cX3_copyFrom 31 = .ok (.aload_n 1, 1) := by decide +kernel
theorem dX3_copyFrom_32 : decode cX3_copyFrom 32 = .ok (.getfield 17, 3) := by decide +kernel
theorem dX3_copyFrom_35 : decode cX3_copyFrom 35 = .ok (.iconst 0, 1) := by decide +kernel
theorem dX3_copyFrom_36 : decode cX3_copyFrom 36 = .ok (.aload_n 0, 1) := by decide +kernel
theorem dX3_copyFrom_37 : decode cX3_copyFrom 37 = .ok (.getfield 17, 3) := by decide +kernel
theorem dX3_copyFrom_40 : decode cX3_copyFrom 40 = .ok (.iconst 0, 1) := by decide +kernel
theorem dX3_copyFrom_41 : decode cX3_copyFrom 41 = .ok (.iconst 4, 1) := by decide +kernel
theorem dX3_copyFrom_42 : decode cX3_copyFrom 42 = .ok (.invokestatic 33, 3) := by decide +kernel
theorem dX3_copyFrom_45 : decode cX3_copyFrom 45 = .ok (.aload_n 0, 1) := by decide +kernel
theorem dX3_copyFrom_46 : decode cX3_copyFrom 46 = .ok (.aload_n 1, 1) := by decide +kernel
theorem dX3_copyFrom_47 : decode cX3_copyFrom 47 = .ok (.getfield 26, 3) := by decide +kernel
theorem dX3_copyFrom_50 : decode cX3_copyFrom 50 = .ok (.putfield 26, 3) := by decide +kernel
theorem dX3_copyFrom_53 : decode cX3_copyFrom 53 = .ok (.aload_n 0, 1) := by decide +kernel
theorem dX3_copyFrom_54 : decode cX3_copyFrom 54 = .ok (.aload_n 1, 1) := by decide +kernel
theorem dX3_copyFrom_55 : decode cX3_copyFrom 55 = .ok (.getfield 39, 3) := by decide +kernel
theorem dX3_copyFrom_58 : decode cX3_copyFrom 58 = .ok (.putfield 39, 3) := by decide +kernel
theorem dX3_copyFrom_61 : decode cX3_copyFrom 61 = .ok (.aload_n 0, 1) := by decide +kernel
theorem dX3_copyFrom_62 : decode cX3_copyFrom 62 = .ok (.aload_n 1, 1) := by decide +kernel
theorem dX3_copyFrom_63 : decode cX3_copyFrom 63 = .ok (.getfield 42, 3) := by decide +kernel
theorem dX3_copyFrom_66 : decode cX3_copyFrom 66 = .ok (.putfield 42, 3) := by decide +kernel
theorem dX3_copyFrom_69 : decode cX3_copyFrom 69 = .ok (.aload_n 0, 1) := by decide +kernel
theorem dX3_copyFrom_70 : decode cX3_copyFrom 70 = .ok (.aload_n 1, 1) := by decide +kernel
theorem dX3_copyFrom_71 : decode cX3_copyFrom 71 = .ok (.getfield 21, 3) := by decide +kernel
theorem dX3_copyFrom_74 : decode cX3_copyFrom 74 = .ok (.putfield 21, 3) := by decide +kernel
theorem dX3_copyFrom_77 : decode cX3_copyFrom 77 = .ok (.aload_n 0, 1) := by decide +kernel
theorem dX3_copyFrom_78 : decode cX3_copyFrom 78 = .ok (.aload_n 1, 1) := by decide +kernel
theorem dX3_copyFrom_79 : decode cX3_copyFrom 79 = .ok (.getfield 45, 3) := by decide +kernel
theorem dX3_copyFrom_82 : decode cX3_copyFrom 82 = .ok (.putfield 45, 3) := by decide +kernel
theorem dX3_copyFrom_85 : decode cX3_copyFrom 85 = .ok (.aload_n 0, 1) := by decide +kernel
theorem dX3_copyFrom_86 : decode cX3_copyFrom 86 = .ok (.aload_n 1, 1) := by decide +kernel
theorem dX3_copyFrom_87 : decode cX3_copyFrom 87 = .ok (.getfield 48, 3) := by decide +kernel
theorem dX3_copyFrom_90 : decode cX3_copyFrom 90 = .ok (.putfield 48, 3) := by decide +kernel
theorem dX3_copyFrom_93 : decode cX3_copyFrom 93 = .ok (.aload_n 0, 1) := by decide +kernel
theorem dX3_copyFrom_94 : decode cX3_copyFrom 94 = .ok (.aload_n 1, 1) := by decide +kernel
theorem dX3_copyFrom_95 : decode cX3_copyFrom 95 = .ok (.getfield 51, 3) := by decide +kernel
theorem dX3_copyFrom_98 : decode cX3_copyFrom 98 = .ok (.putfield 51, 3) := by decide +kernel
theorem dX3_copyFrom_101 : decode cX3_copyFrom 101 = .ok (.return_, 1) := by decide +kernel
theorem dX3_isFull_0 : decode cX3_isFull 0 = .ok (.aload_n 0, 1) := by decide +kernel
theorem dX3_isFull_1 : decode cX3_isFull 1 = .ok (.getfield 26, 3) := by decide +kernel
theorem dX3_isFull_4 : decode cX3_isFull 4 = .ok (.bipush 40, 2) := by decide +kernel
theorem dX3_isFull_6 : decode cX3_isFull 6 = .ok (.if_icmp .lt 7, 3) := by decide +kernel
theorem dX3_isFull_9 : decode cX3_isFull 9 = .ok (.iconst 1, 1) := by decide +kernel
theorem dX3_isFull_10 : decode cX3_isFull 10 = .ok (.goto 4, 3) := by decide +kernel
theorem dX3_isFull_13 : decode cX3_isFull 13 = .ok (.iconst 0, 1) := by decide +kernel
theorem dX3_isFull_14 : decode cX3_isFull 14 = .ok (.ireturn, 1) := by decide +kernel
theorem dX3_isIdle_0 : decode cX3_isIdle 0 = .ok (.aload_n 0, 1) := by decide +kernel
theorem dX3_isIdle_1 : decode cX3_isIdle 1 = .ok (.getfield 21, 3) := by decide +kernel
theorem dX3_isIdle_4 : decode cX3_isIdle 4 = .ok (.iconst (-1), 1) := by decide +kernel
theorem dX3_isIdle_5 : decode cX3_isIdle 5 = .ok (.if_icmp .ne 7, 3) := by decide +kernel
theorem dX3_isIdle_8 : decode cX3_isIdle 8 = .ok (.iconst 1, 1) := by decide +kernel
theorem dX3_isIdle_9 : decode cX3_isIdle 9 = .ok (.goto 4, 3) := by decide +kernel
theorem dX3_isIdle_12 : decode cX3_isIdle 12 = .ok (.iconst 0, 1) := by decide +kernel
theorem dX3_isIdle_13 : decode cX3_isIdle 13 = .ok (.ireturn, 1) := by decide +kernel
theorem dX3_hasLot_0 : decode cX3_hasLot 0 = .ok (.iload_n 1, 1) := by decide +kernel
theorem dX3_hasLot_1 : decode cX3_hasLot 1 = .ok (.ifCond .lt 15, 3) := by decide +kernel
theorem dX3_hasLot_4 : decode cX3_hasLot 4 = .ok (.iload_n 1, 1) := by decide +kernel
theorem dX3_hasLot_5 : decode cX3_hasLot 5 = .ok (.aload_n 0, 1) := by decide +kernel
theorem dX3_hasLot_6 : decode cX3_hasLot 6 = .ok (.getfield 26, 3) := by decide +kernel
theorem dX3_hasLot_9 : decode cX3_hasLot 9 = .ok (.if_icmp .ge 7, 3) := by decide +kernel
theorem dX3_hasLot_12 : decode cX3_hasLot 12 = .ok (.iconst 1, 1) := by decide +kernel
theorem dX3_hasLot_13 : decode cX3_hasLot 13 = .ok (.goto 4, 3) := by decide +kernel
theorem dX3_hasLot_16 : decode cX3_hasLot 16 = .ok (.iconst 0, 1) := by decide +kernel
theorem dX3_hasLot_17 : decode cX3_hasLot 17 = .ok (.ireturn, 1) := by decide +kernel
theorem dX3_create_0 : decode cX3_create 0 = .ok (.aload_n 0, 1) := by decide +kernel
theorem dX3_create_1 : decode cX3_create 1 = .ok (.getfield 26, 3) := by decide +kernel
theorem dX3_create_4 : decode cX3_create 4 = .ok (.istore 5, 2) := by decide +kernel
theorem dX3_create_6 : decode cX3_create 6 = .ok (.aload_n 0, 1) := by decide +kernel
theorem dX3_create_7 : decode cX3_create 7 = .ok (.getfield 11, 3) := by decide +kernel
theorem dX3_create_10 : decode cX3_create 10 = .ok (.iload 5, 2) := by decide +kernel
theorem dX3_create_12 : decode cX3_create 12 = .ok (.aaload, 1) := by decide +kernel
theorem dX3_create_13 : decode cX3_create 13 = .ok (.astore 6, 2) := by decide +kernel
theorem dX3_create_15 : decode cX3_create 15 = .ok (.aload 6, 2) := by decide +kernel
theorem dX3_create_17 : decode cX3_create 17 = .ok (.getfield 54, 3) := by decide +kernel
theorem dX3_create_20 : decode cX3_create 20 = .ok (.iconst 0, 1) := by decide +kernel
theorem dX3_create_21 : decode cX3_create 21 = .ok (.iload_n 1, 1) := by decide +kernel
theorem dX3_create_22 : decode cX3_create 22 = .ok (.iastore, 1) := by decide +kernel
theorem dX3_create_23 : decode cX3_create 23 = .ok (.aload 6, 2) := by decide +kernel
theorem dX3_create_25 : decode cX3_create 25 = .ok (.getfield 54, 3) := by decide +kernel
theorem dX3_create_28 : decode cX3_create 28 = .ok (.iconst 1, 1) := by decide +kernel
theorem dX3_create_29 : decode cX3_create 29 = .ok (.iload_n 2, 1) := by decide +kernel
theorem dX3_create_30 : decode cX3_create 30 = .ok (.iastore, 1) := by decide +kernel
theorem dX3_create_31 : decode cX3_create 31 = .ok (.aload 6, 2) := by decide +kernel
theorem dX3_create_33 : decode cX3_create 33 = .ok (.getfield 54, 3) := by decide +kernel
theorem dX3_create_36 : decode cX3_create 36 = .ok (.iconst 2, 1) := by decide +kernel
theorem dX3_create_37 : decode cX3_create 37 = .ok (.iload_n 3, 1) := by decide +kernel
theorem dX3_create_38 : decode cX3_create 38 = .ok (.iastore, 1) := by decide +kernel
theorem dX3_create_39 : decode cX3_create 39 = .ok (.aload 6, 2) := by decide +kernel
theorem dX3_create_41 : decode cX3_create 41 = .ok (.getfield 54, 3) := by decide +kernel
theorem dX3_create_44 : decode cX3_create 44 = .ok (.iconst 3, 1) := by decide +kernel
theorem dX3_create_45 : decode cX3_create 45 = .ok (.iload 4, 2) := by decide +kernel
theorem dX3_create_47 : decode cX3_create 47 = .ok (.iastore, 1) := by decide +kernel
theorem dX3_create_48 : decode cX3_create 48 = .ok (.aload 6, 2) := by decide +kernel
theorem dX3_create_50 : decode cX3_create 50 = .ok (.iconst 0, 1) := by decide +kernel
theorem dX3_create_51 : decode cX3_create 51 = .ok (.putfield 57, 3) := by decide +kernel
theorem dX3_create_54 : decode cX3_create 54 = .ok (.aload_n 0, 1) := by decide +kernel
theorem dX3_create_55 : decode cX3_create 55 = .ok (.dup, 1) := by decide +kernel
theorem dX3_create_56 : decode cX3_create 56 = .ok (.getfield 26, 3) := by decide +kernel
theorem dX3_create_59 : decode cX3_create 59 = .ok (.iconst 1, 1) := by decide +kernel
theorem dX3_create_60 : decode cX3_create 60 = .ok (.iadd, 1) := by decide +kernel
theorem dX3_create_61 : decode cX3_create 61 = .ok (.putfield 26, 3) := by decide +kernel
theorem dX3_create_64 : decode cX3_create 64 = .ok (.iload 5, 2) := by decide +kernel
theorem dX3_create_66 : decode cX3_create 66 = .ok (.ireturn, 1) := by decide +kernel
theorem dX3_plan_0 : decode cX3_plan 0 = .ok (.aload_n 1, 1) := by decide +kernel
theorem dX3_plan_1 : decode cX3_plan 1 = .ok (.iconst 0, 1) := by decide +kernel
theorem dX3_plan_2 : decode cX3_plan 2 = .ok (.putfield 60, 3) := by decide +kernel
theorem dX3_plan_5 : decode cX3_plan 5 = .ok (.aload_n 1, 1) := by decide +kernel
theorem dX3_plan_6 : decode cX3_plan 6 = .ok (.aload_n 0, 1) := by decide +kernel
theorem dX3_plan_7 : decode cX3_plan 7 = .ok (.getfield 39, 3) := by decide +kernel
theorem dX3_plan_10 : decode cX3_plan 10 = .ok (.iload_n 2, 1) := by decide +kernel
theorem dX3_plan_11 : decode cX3_plan 11 = .ok (.iadd, 1) := by decide +kernel
theorem dX3_plan_12 : decode cX3_plan 12 = .ok (.putfield 63, 3) := by decide +kernel
theorem dX3_plan_15 : decode cX3_plan 15 = .ok (.return_, 1) := by decide +kernel
theorem dX3_putIntoBin_0 : decode cX3_putIntoBin 0 = .ok (.aload_n 1, 1) := by decide +kernel
theorem dX3_putIntoBin_1 : decode cX3_putIntoBin 1 = .ok (.iconst 1, 1) := by decide +kernel
theorem dX3_putIntoBin_2 : decode cX3_putIntoBin 2 = .ok (.putfield 60, 3) := by decide +kernel
theorem dX3_putIntoBin_5 : decode cX3_putIntoBin 5 = .ok (.aload_n 1, 1) := by decide +kernel
theorem dX3_putIntoBin_6 : decode cX3_putIntoBin 6 = .ok (.aload_n 0, 1) := by decide +kernel
theorem dX3_putIntoBin_7 : decode cX3_putIntoBin 7 = .ok (.getfield 42, 3) := by decide +kernel
theorem dX3_putIntoBin_10 : decode cX3_putIntoBin 10 = .ok (.putfield 66, 3) := by decide +kernel
theorem dX3_putIntoBin_13 : decode cX3_putIntoBin 13 = .ok (.aload_n 0, 1) := by decide +kernel
theorem dX3_putIntoBin_14 : decode cX3_putIntoBin 14 = .ok (.dup, 1) := by decide +kernel
theorem dX3_putIntoBin_15 : decode cX3_putIntoBin 15 = .ok (.getfield 42, 3) := by decide +kernel
theorem dX3_putIntoBin_18 : decode cX3_putIntoBin 18 = .ok (.iconst 1, 1) := by decide +kernel
theorem dX3_putIntoBin_19 : decode cX3_putIntoBin 19 = .ok (.iadd, 1) := by decide +kernel
theorem dX3_putIntoBin_20 : decode cX3_putIntoBin 20 = .ok (.putfield 42, 3) := by decide +kernel
theorem dX3_putIntoBin_23 : decode cX3_putIntoBin 23 = .ok (.return_, 1) := by decide +kernel
theorem dX3_run_0 : decode cX3_run 0 = .ok (.aload_n 0, 1) := by decide +kernel
theorem dX3_run_1 : decode cX3_run 1 = .ok (.getfield 39, 3) := by decide +kernel
theorem dX3_run_4 : decode cX3_run 4 = .ok (.iload_n 1, 1) := by decide +kernel
theorem dX3_run_5 : decode cX3_run 5 = .ok (.iadd, 1) := by decide +kernel
theorem dX3_run_6 : decode cX3_run 6 = .ok (.istore_n 3, 1) := by decide +kernel
theorem dX3_run_7 : decode cX3_run 7 = .ok (.iconst 0, 1) := by decide +kernel
theorem dX3_run_8 : decode cX3_run 8 = .ok (.istore 4, 2) := by decide +kernel
theorem dX3_run_10 : decode cX3_run 10 = .ok (.iload 4, 2) := by decide +kernel
theorem dX3_run_12 : decode cX3_run 12 = .ok (.iload_n 1, 1) := by decide +kernel
theorem dX3_run_13 : decode cX3_run 13 = .ok (.if_icmp .ge 44, 3) := by decide +kernel
theorem dX3_run_16 : decode cX3_run 16 = .ok (.aload_n 0, 1) := by decide +kernel
theorem dX3_run_17 : decode cX3_run 17 = .ok (.invokevirtual 69, 3) := by decide +kernel
theorem dX3_run_20 : decode cX3_run 20 = .ok (.istore 5, 2) := by decide +kernel
theorem dX3_run_22 : decode cX3_run 22 = .ok (.iload 5, 2) := by decide +kernel
theorem dX3_run_24 : decode cX3_run 24 = .ok (.iload_n 3, 1) := by decide +kernel
theorem dX3_run_25 : decode cX3_run 25 = .ok (.if_icmp .le 6, 3) := by decide +kernel
theorem dX3_run_28 : decode cX3_run 28 = .ok (.goto 29, 3) := by decide +kernel
theorem dX3_run_31 : decode cX3_run 31 = .ok (.aload_n 0, 1) := by decide +kernel
theorem dX3_run_32 : decode cX3_run 32 = .ok (.iload 5, 2) := by decide +kernel
theorem dX3_run_34 : decode cX3_run 34 = .ok (.putfield 39, 3) := by decide +kernel
theorem dX3_run_37 : decode cX3_run 37 = .ok (.aload_n 0, 1) := by decide +kernel
theorem dX3_run_38 : decode cX3_run 38 = .ok (.aload_n 2, 1) := by decide +kernel
theorem dX3_run_39 : decode cX3_run 39 = .ok (.invokevirtual 73, 3) := by decide +kernel
theorem dX3_run_42 : decode cX3_run 42 = .ok (.aload_n 0, 1) := by decide +kernel
theorem dX3_run_43 : decode cX3_run 43 = .ok (.invokevirtual 77, 3) := by decide +kernel
theorem dX3_run_46 : decode cX3_run 46 = .ok (.aload_n 0, 1) := by decide +kernel
theorem dX3_run_47 : decode cX3_run 47 = .ok (.aload_n 2, 1) := by decide +kernel
theorem dX3_run_48 : decode cX3_run 48 = .ok (.invokevirtual 80, 3) := by decide +kernel
theorem dX3_run_51 : decode cX3_run 51 = .ok (.iinc 4 1, 3) := by decide +kernel
theorem dX3_run_54 : decode cX3_run 54 = .ok (.goto (-44), 3) := by decide +kernel
theorem dX3_run_57 : decode cX3_run 57 = .ok (.aload_n 0, 1) := by decide +kernel
theorem dX3_run_58 : decode cX3_run 58 = .ok (.iload_n 3, 1) := by decide +kernel
theorem dX3_run_59 : decode cX3_run 59 = .ok (.putfield 39, 3) := by decide +kernel
theorem dX3_run_62 : decode cX3_run 62 = .ok (.return_, 1) := by decide +kernel
theorem dX3_nextEvent_0 : decode cX3_nextEvent 0 = .ok (.aload_n 0, 1) := by decide +kernel
theorem dX3_nextEvent_1 : decode cX3_nextEvent 1 = .ok (.invokevirtual 83, 3) := by decide +kernel
theorem dX3_nextEvent_4 : decode cX3_nextEvent 4 = .ok (.ifCond .eq 8, 3) := by decide +kernel
theorem dX3_nextEvent_7 : decode cX3_nextEvent 7 = .ok (.ldc 87, 2) := by decide +kernel
theorem dX3_nextEvent_9 : decode cX3_nextEvent 9 = .ok (.goto 7, 3) := by decide +kernel
theorem dX3_nextEvent_12 : decode cX3_nextEvent 12 = .ok (.aload_n 0, 1) := by decide +kernel
theorem dX3_nextEvent_13 : decode cX3_nextEvent 13 = .ok (.getfield 45, 3) := by decide +kernel
theorem dX3_nextEvent_16 : decode cX3_nextEvent 16 = .ok (.istore_n 1, 1) := by decide +kernel
theorem dX3_nextEvent_17 : decode cX3_nextEvent 17 = .ok (.iconst 0, 1) := by decide +kernel
theorem dX3_nextEvent_18 : decode cX3_nextEvent 18 = .ok (.istore_n 2, 1) := by decide +kernel
theorem dX3_nextEvent_19 : decode cX3_nextEvent 19 = .ok (.iload_n 2, 1) := by decide +kernel
theorem dX3_nextEvent_20 : decode cX3_nextEvent 20 = .ok (.aload_n 0, 1) := by decide +kernel
theorem dX3_nextEvent_21 : decode cX3_nextEvent 21 = .ok (.getfield 26, 3) := by decide +kernel
theorem dX3_nextEvent_24 : decode cX3_nextEvent 24 = .ok (.if_icmp .ge 32, 3) := by decide +kernel
theorem dX3_nextEvent_27 : decode cX3_nextEvent 27 = .ok (.aload_n 0, 1) := by decide +kernel
theorem dX3_nextEvent_28 : decode cX3_nextEvent 28 = .ok (.getfield 11, 3) := by decide +kernel
theorem dX3_nextEvent_31 : decode cX3_nextEvent 31 = .ok (.iload_n 2, 1) := by decide +kernel
theorem dX3_nextEvent_32 : decode cX3_nextEvent 32 = .ok (.aaload, 1) := by decide +kernel
theorem dX3_nextEvent_33 : decode cX3_nextEvent 33 = .ok (.astore_n 3, 1) := by decide +kernel
theorem dX3_nextEvent_34 : decode cX3_nextEvent 34 = .ok (.aload_n 3, 1) := by decide +kernel
theorem dX3_nextEvent_35 : decode cX3_nextEvent 35 = .ok (.getfield 60, 3) := by decide +kernel
theorem dX3_nextEvent_38 : decode cX3_nextEvent 38 = .ok (.ifCond .ne 12, 3) := by decide +kernel
theorem dX3_nextEvent_41 : decode cX3_nextEvent 41 = .ok (.iload_n 1, 1) := by decide +kernel
theorem dX3_nextEvent_42 : decode cX3_nextEvent 42 = .ok (.aload_n 3, 1) := by decide +kernel
theorem dX3_nextEvent_43 : decode cX3_nextEvent 43 = .ok (.getfield 63, 3) := by decide +kernel
theorem dX3_nextEvent_46 : decode cX3_nextEvent 46 = .ok (.invokestatic 88, 3) := by decide +kernel
theorem dX3_nextEvent_49 : decode cX3_nextEvent 49 = .ok (.istore_n 1, 1) := by decide +kernel
theorem dX3_nextEvent_50 : decode cX3_nextEvent 50 = .ok (.iinc 2 1, 3) := by decide +kernel
theorem dX3_nextEvent_53 : decode cX3_nextEvent 53 = .ok (.goto (-34), 3) := by decide +kernel
theorem dX3_nextEvent_56 : decode cX3_nextEvent 56 = .ok (.iload_n 1, 1) := by decide +kernel
theorem dX3_nextEvent_57 : decode cX3_nextEvent 57 = .ok (.ireturn, 1) := by decide +kernel
theorem dX3_finishIfDue_0 : decode cX3_finishIfDue 0 = .ok (.aload_n 0, 1) := by decide +kernel
theorem dX3_finishIfDue_1 : decode cX3_finishIfDue 1 = .ok (.invokevirtual 83, 3) := by decide +kernel
theorem dX3_finishIfDue_4 : decode cX3_finishIfDue 4 = .ok (.ifCond .ne 14, 3) := by decide +kernel
theorem dX3_finishIfDue_7 : decode cX3_finishIfDue 7 = .ok (.aload_n 0, 1) := by decide +kernel
theorem dX3_finishIfDue_8 : decode cX3_finishIfDue 8 = .ok (.getfield 45, 3) := by decide +kernel
theorem dX3_finishIfDue_11 : decode cX3_finishIfDue 11 = .ok (.aload_n 0, 1) := by decide +kernel
theorem dX3_finishIfDue_12 : decode cX3_finishIfDue 12 = .ok (.getfield 39, 3) := by decide +kernel
theorem dX3_finishIfDue_15 : decode cX3_finishIfDue 15 = .ok (.if_icmp .eq 4, 3) := by decide +kernel
theorem dX3_finishIfDue_18 : decode cX3_finishIfDue 18 = .ok (.return_, 1) := by decide +kernel
theorem dX3_finishIfDue_19 : decode cX3_finishIfDue 19 = .ok (.aload_n 0, 1) := by decide +kernel
theorem dX3_finishIfDue_20 : decode cX3_finishIfDue 20 = .ok (.getfield 11, 3) := by decide +kernel
theorem dX3_finishIfDue_23 : decode cX3_finishIfDue 23 = .ok (.aload_n 0, 1) := by decide +kernel
theorem dX3_finishIfDue_24 : decode cX3_finishIfDue 24 = .ok (.getfield 21, 3) := by decide +kernel
theorem dX3_finishIfDue_27 : decode cX3_finishIfDue 27 = .ok (.aaload, 1) := by decide +kernel
theorem dX3_finishIfDue_28 : decode cX3_finishIfDue 28 = .ok (.astore_n 2, 1) := by decide +kernel
theorem dX3_finishIfDue_29 : decode cX3_finishIfDue 29 = .ok (.aload_n 0, 1) := by decide +kernel
theorem dX3_finishIfDue_30 : decode cX3_finishIfDue 30 = .ok (.iconst (-1), 1) := by decide +kernel
theorem dX3_finishIfDue_31 : decode cX3_finishIfDue 31 = .ok (.putfield 21, 3) := by decide +kernel
theorem dX3_finishIfDue_34 : decode cX3_finishIfDue 34 = .ok (.aload_n 0, 1) := by decide +kernel
theorem dX3_finishIfDue_35 : decode cX3_finishIfDue 35 = .ok (.dup, 1) := by decide +kernel
theorem dX3_finishIfDue_36 : decode cX3_finishIfDue 36 = .ok (.getfield 48, 3) := by decide +kernel
theorem dX3_finishIfDue_39 : decode cX3_finishIfDue 39 = .ok (.aload_n 2, 1) := by decide +kernel
theorem dX3_finishIfDue_40 : decode cX3_finishIfDue 40 = .ok (.aload_n 1, 1) := by decide +kernel
theorem dX3_finishIfDue_41 : decode cX3_finishIfDue 41 = .ok (.getfield 94, 3) := by decide +kernel
theorem dX3_finishIfDue_44 : decode cX3_finishIfDue 44 = .ok (.invokevirtual 99, 3) := by decide +kernel
theorem dX3_finishIfDue_47 : decode cX3_finishIfDue 47 = .ok (.iadd, 1) := by decide +kernel
theorem dX3_finishIfDue_48 : decode cX3_finishIfDue 48 = .ok (.putfield 48, 3) := by decide +kernel
theorem dX3_finishIfDue_51 : decode cX3_finishIfDue 51 = .ok (.aload_n 2, 1) := by decide +kernel
theorem dX3_finishIfDue_52 : decode cX3_finishIfDue 52 = .ok (.aload_n 1, 1) := by decide +kernel
theorem dX3_finishIfDue_53 : decode cX3_finishIfDue 53 = .ok (.getfield 103, 3) := by decide +kernel
theorem dX3_finishIfDue_56 : decode cX3_finishIfDue 56 = .ok (.invokevirtual 107, 3) := by decide +kernel
theorem dX3_finishIfDue_59 : decode cX3_finishIfDue 59 = .ok (.aload_n 2, 1) := by decide +kernel
theorem dX3_finishIfDue_60 : decode cX3_finishIfDue 60 = .ok (.aload_n 1, 1) := by decide +kernel
theorem dX3_finishIfDue_61 : decode cX3_finishIfDue 61 = .ok (.getfield 111, 3) := by decide +kernel
theorem dX3_finishIfDue_64 : decode cX3_finishIfDue 64 = .ok (.aload_n 0, 1) := by decide +kernel
theorem dX3_finishIfDue_65 : decode cX3_finishIfDue 65 = .ok (.getfield 17, 3) := by decide +kernel
theorem dX3_finishIfDue_68 : decode cX3_finishIfDue 68 = .ok (.invokevirtual 114, 3) := by decide +kernel
theorem dX3_finishIfDue_71 : decode cX3_finishIfDue 71 = .ok (.aload_n 2, 1) := by decide +kernel
theorem dX3_finishIfDue_72 : decode cX3_finishIfDue 72 = .ok (.dup, 1) := by decide +kernel
theorem dX3_finishIfDue_73 : decode cX3_finishIfDue 73 = .ok (.getfield 57, 3) := by decide +kernel
theorem dX3_finishIfDue_76 : decode cX3_finishIfDue 76 = .ok (.iconst 1, 1) := by decide +kernel
theorem dX3_finishIfDue_77 : decode cX3_finishIfDue 77 = .ok (.iadd, 1) := by decide +kernel
theorem dX3_finishIfDue_78 : decode cX3_finishIfDue 78 = .ok (.putfield 57, 3) := by decide +kernel
theorem dX3_finishIfDue_81 : decode cX3_finishIfDue 81 = .ok (.aload_n 2, 1) := by decide +kernel
theorem dX3_finishIfDue_82 : decode cX3_finishIfDue 82 = .ok (.getfield 54, 3) := by decide +kernel
theorem dX3_finishIfDue_85 : decode cX3_finishIfDue 85 = .ok (.invokestatic 118, 3) := by decide +kernel
theorem dX3_finishIfDue_88 : decode cX3_finishIfDue 88 = .ok (.istore_n 3, 1) := by decide +kernel
theorem dX3_finishIfDue_89 : decode cX3_finishIfDue 89 = .ok (.aload_n 0, 1) := by decide +kernel
theorem dX3_finishIfDue_90 : decode cX3_finishIfDue 90 = .ok (.dup, 1) := by decide +kernel
theorem dX3_finishIfDue_91 : decode cX3_finishIfDue 91 = .ok (.getfield 51, 3) := by decide +kernel
theorem dX3_finishIfDue_94 : decode cX3_finishIfDue 94 = .ok (.iload_n 3, 1) := by decide +kernel
theorem dX3_finishIfDue_95 : decode cX3_finishIfDue 95 = .ok (.iadd, 1) := by decide +kernel
theorem dX3_finishIfDue_96 : decode cX3_finishIfDue 96 = .ok (.putfield 51, 3) := by decide +kernel
theorem dX3_finishIfDue_99 : decode cX3_finishIfDue 99 = .ok (.iload_n 3, 1) := by decide +kernel
theorem dX3_finishIfDue_100 : decode cX3_finishIfDue 100 = .ok (.ifCond .ne 11, 3) := by decide +kernel
theorem dX3_finishIfDue_103 : decode cX3_finishIfDue 103 = .ok (.aload_n 2, 1) := by decide +kernel
theorem dX3_finishIfDue_104 : decode cX3_finishIfDue 104 = .ok (.iconst 3, 1) := by decide +kernel
theorem dX3_finishIfDue_105 : decode cX3_finishIfDue 105 = .ok (.putfield 60, 3) := by decide +kernel
theorem dX3_finishIfDue_108 : decode cX3_finishIfDue 108 = .ok (.goto 8, 3) := by decide +kernel
theorem dX3_finishIfDue_111 : decode cX3_finishIfDue 111 = .ok (.aload_n 0, 1) := by decide +kernel
theorem dX3_finishIfDue_112 : decode cX3_finishIfDue 112 = .ok (.aload_n 2, 1) := by decide +kernel
theorem dX3_finishIfDue_113 : decode cX3_finishIfDue 113 = .ok (.invokevirtual 121, 3) := by decide +kernel
theorem dX3_finishIfDue_116 : decode cX3_finishIfDue 116 = .ok (.return_, 1) := by decide +kernel
theorem dX3_takePlannedLots_0 : decode cX3_takePlannedLots 0 = .ok (.iconst 0, 1) := by decide +kernel
theorem dX3_takePlannedLots_1 : decode cX3_takePlannedLots 1 = .ok (.istore_n 1, 1) := by decide +kernel
theorem dX3_takePlannedLots_2 : decode cX3_takePlannedLots 2 = .ok (.iload_n 1, 1) := by decide +kernel
theorem dX3_takePlannedLots_3 : decode cX3_takePlannedLots 3 = .ok (.aload_n 0, 1) := by decide +kernel
theorem dX3_takePlannedLots_4 : decode cX3_takePlannedLots 4 = .ok (.getfield 26, 3) := by decide +kernel
theorem dX3_takePlannedLots_7 : decode cX3_takePlannedLots 7 = .ok (.if_icmp .ge 39, 3) := by decide +kernel
theorem dX3_takePlannedLots_10 : decode cX3_takePlannedLots 10 = .ok (.aload_n 0, 1) := by decide +kernel
theorem dX3_takePlannedLots_11 : decode cX3_takePlannedLots 11 = .ok (.getfield 11, 3) := by decide +kernel
theorem dX3_takePlannedLots_14 : decode cX3_takePlannedLots 14 = .ok (.iload_n 1, 1) := by decide +kernel
theorem dX3_takePlannedLots_15 : decode cX3_takePlannedLots 15 = .ok (.aaload, 1) := by decide +kernel
theorem dX3_takePlannedLots_16 : decode cX3_takePlannedLots 16 = .ok (.astore_n 2, 1) := by decide +kernel
theorem dX3_takePlannedLots_17 : decode cX3_takePlannedLots 17 = .ok (.aload_n 2, 1) := by decide +kernel
theorem dX3_takePlannedLots_18 : decode cX3_takePlannedLots 18 = .ok (.getfield 60, 3) := by decide +kernel
theorem dX3_takePlannedLots_21 : decode cX3_takePlannedLots 21 = .ok (.ifCond .ne 19, 3) := by decide +kernel
theorem dX3_takePlannedLots_24 : decode cX3_takePlannedLots 24 = .ok (.aload_n 2, 1) := by decide +kernel
theorem dX3_takePlannedLots_25 : decode cX3_takePlannedLots 25 = .ok (.getfield 63, 3) := by decide +kernel
theorem dX3_takePlannedLots_28 : decode cX3_takePlannedLots 28 = .ok (.aload_n 0, 1) := by decide +kernel
theorem dX3_takePlannedLots_29 : decode cX3_takePlannedLots 29 = .ok (.getfield 39, 3) := by decide +kernel
theorem dX3_takePlannedLots_32 : decode cX3_takePlannedLots 32 = .ok (.if_icmp .ne 8, 3) := by decide +kernel
theorem dX3_takePlannedLots_35 : decode cX3_takePlannedLots 35 = .ok (.aload_n 0, 1) := by decide +kernel
theorem dX3_takePlannedLots_36 : decode cX3_takePlannedLots 36 = .ok (.aload_n 2, 1) := by decide +kernel
theorem dX3_takePlannedLots_37 : decode cX3_takePlannedLots 37 = .ok (.invokevirtual 121, 3) := by decide +kernel
theorem dX3_takePlannedLots_40 : decode cX3_takePlannedLots 40 = .ok (.iinc 1 1, 3) := by decide +kernel
theorem dX3_takePlannedLots_43 : decode cX3_takePlannedLots 43 = .ok (.goto (-41), 3) := by decide +kernel
theorem dX3_takePlannedLots_46 : decode cX3_takePlannedLots 46 = .ok (.return_, 1) := by decide +kernel
theorem dX3_startIfIdle_0 : decode cX3_startIfIdle 0 = .ok (.aload_n 0, 1) := by decide +kernel
theorem dX3_startIfIdle_1 : decode cX3_startIfIdle 1 = .ok (.invokevirtual 83, 3) := by decide +kernel
theorem dX3_startIfIdle_4 : decode cX3_startIfIdle 4 = .ok (.ifCond .ne 4, 3) := by decide +kernel
theorem dX3_startIfIdle_7 : decode cX3_startIfIdle 7 = .ok (.return_, 1) := by decide +kernel
theorem dX3_startIfIdle_8 : decode cX3_startIfIdle 8 = .ok (.aload_n 0, 1) := by decide +kernel
theorem dX3_startIfIdle_9 : decode cX3_startIfIdle 9 = .ok (.aload_n 1, 1) := by decide +kernel
theorem dX3_startIfIdle_10 : decode cX3_startIfIdle 10 = .ok (.getfield 124, 3) := by decide +kernel
theorem dX3_startIfIdle_13 : decode cX3_startIfIdle 13 = .ok (.invokevirtual 127, 3) := by decide +kernel
theorem dX3_startIfIdle_16 : decode cX3_startIfIdle 16 = .ok (.istore_n 2, 1) := by decide +kernel
theorem dX3_startIfIdle_17 : decode cX3_startIfIdle 17 = .ok (.iload_n 2, 1) := by decide +kernel
theorem dX3_startIfIdle_18 : decode cX3_startIfIdle 18 = .ok (.iconst (-1), 1) := by decide +kernel
theorem dX3_startIfIdle_19 : decode cX3_startIfIdle 19 = .ok (.if_icmp .ne 4, 3) := by decide +kernel
theorem dX3_startIfIdle_22 : decode cX3_startIfIdle 22 = .ok (.return_, 1) := by decide +kernel
theorem dX3_startIfIdle_23 : decode cX3_startIfIdle 23 = .ok (.aload_n 0, 1) := by decide +kernel
theorem dX3_startIfIdle_24 : decode cX3_startIfIdle 24 = .ok (.getfield 11, 3) := by decide +kernel
theorem dX3_startIfIdle_27 : decode cX3_startIfIdle 27 = .ok (.iload_n 2, 1) := by decide +kernel
theorem dX3_startIfIdle_28 : decode cX3_startIfIdle 28 = .ok (.aaload, 1) := by decide +kernel
theorem dX3_startIfIdle_29 : decode cX3_startIfIdle 29 = .ok (.astore_n 3, 1) := by decide +kernel
theorem dX3_startIfIdle_30 : decode cX3_startIfIdle 30 = .ok (.aload_n 3, 1) := by decide +kernel
theorem dX3_startIfIdle_31 : decode cX3_startIfIdle 31 = .ok (.iconst 2, 1) := by decide +kernel
theorem dX3_startIfIdle_32 : decode cX3_startIfIdle 32 = .ok (.putfield 60, 3) := by decide +kernel
theorem dX3_startIfIdle_35 : decode cX3_startIfIdle 35 = .ok (.aload_n 0, 1) := by decide +kernel
theorem dX3_startIfIdle_36 : decode cX3_startIfIdle 36 = .ok (.iload_n 2, 1) := by decide +kernel
theorem dX3_startIfIdle_37 : decode cX3_startIfIdle 37 = .ok (.putfield 21, 3) := by decide +kernel
theorem dX3_startIfIdle_40 : decode cX3_startIfIdle 40 = .ok (.aload_n 0, 1) := by decide +kernel
theorem dX3_startIfIdle_41 : decode cX3_startIfIdle 41 = .ok (.aload_n 0, 1) := by decide +kernel
theorem dX3_startIfIdle_42 : decode cX3_startIfIdle 42 = .ok (.getfield 39, 3) := by decide +kernel
theorem dX3_startIfIdle_45 : decode cX3_startIfIdle 45 = .ok (.aload_n 3, 1) := by decide +kernel
theorem dX3_startIfIdle_46 : decode cX3_startIfIdle 46 = .ok (.getfield 54, 3) := by decide +kernel
theorem dX3_startIfIdle_49 : decode cX3_startIfIdle 49 = .ok (.invokestatic 118, 3) := by decide +kernel
theorem dX3_startIfIdle_52 : decode cX3_startIfIdle 52 = .ok (.aload_n 1, 1) := by decide +kernel
theorem dX3_startIfIdle_53 : decode cX3_startIfIdle 53 = .ok (.getfield 131, 3) := by decide +kernel
theorem dX3_startIfIdle_56 : decode cX3_startIfIdle 56 = .ok (.iadd, 1) := by decide +kernel
theorem dX3_startIfIdle_57 : decode cX3_startIfIdle 57 = .ok (.iconst 1, 1) := by decide +kernel
theorem dX3_startIfIdle_58 : decode cX3_startIfIdle 58 = .ok (.isub, 1) := by decide +kernel
theorem dX3_startIfIdle_59 : decode cX3_startIfIdle 59 = .ok (.aload_n 1, 1) := by decide +kernel
theorem dX3_startIfIdle_60 : decode cX3_startIfIdle 60 = .ok (.getfield 131, 3) := by decide +kernel
theorem dX3_startIfIdle_63 : decode cX3_startIfIdle 63 = .ok (.idiv, 1) := by decide +kernel
theorem dX3_startIfIdle_64 : decode cX3_startIfIdle 64 = .ok (.iadd, 1) := by decide +kernel
theorem dX3_startIfIdle_65 : decode cX3_startIfIdle 65 = .ok (.putfield 45, 3) := by decide +kernel
theorem dX3_startIfIdle_68 : decode cX3_startIfIdle 68 = .ok (.return_, 1) := by decide +kernel
theorem dX3_countBin_0 : decode cX3_countBin 0 = .ok (.iconst 0, 1) := by decide +kernel
theorem dX3_countBin_1 : decode cX3_countBin 1 = .ok (.istore_n 1, 1) := by decide +kernel
theorem dX3_countBin_2 : decode cX3_countBin 2 = .ok (.iconst 0, 1) := by decide +kernel
theorem dX3_countBin_3 : decode cX3_countBin 3 = .ok (.istore_n 2, 1) := by decide +kernel
theorem dX3_countBin_4 : decode cX3_countBin 4 = .ok (.iload_n 2, 1) := by decide +kernel
theorem dX3_countBin_5 : decode cX3_countBin 5 = .ok (.aload_n 0, 1) := by decide +kernel
theorem dX3_countBin_6 : decode cX3_countBin 6 = .ok (.getfield 26, 3) := by decide +kernel
theorem dX3_countBin_9 : decode cX3_countBin 9 = .ok (.if_icmp .ge 25, 3) := by decide +kernel
theorem dX3_countBin_12 : decode cX3_countBin 12 = .ok (.aload_n 0, 1) := by decide +kernel
theorem dX3_countBin_13 : decode cX3_countBin 13 = .ok (.getfield 11, 3) := by decide +kernel
theorem dX3_countBin_16 : decode cX3_countBin 16 = .ok (.iload_n 2, 1) := by decide +kernel
theorem dX3_countBin_17 : decode cX3_countBin 17 = .ok (.aaload, 1) := by decide +kernel
theorem dX3_countBin_18 : decode cX3_countBin 18 = .ok (.getfield 60, 3) := by decide +kernel
theorem dX3_countBin_21 : decode cX3_countBin 21 = .ok (.iconst 1, 1) := by decide +kernel
theorem dX3_countBin_22 : decode cX3_countBin 22 = .ok (.if_icmp .ne 6, 3) := by decide +kernel
theorem dX3_countBin_25 : decode cX3_countBin 25 = .ok (.iinc 1 1, 3) := by decide +kernel
theorem dX3_countBin_28 : decode cX3_countBin 28 = .ok (.iinc 2 1, 3) := by decide +kernel
theorem dX3_countBin_31 : decode cX3_countBin 31 = .ok (.goto (-27), 3) := by decide +kernel
theorem dX3_countBin_34 : decode cX3_countBin 34 = .ok (.iload_n 1, 1) := by decide +kernel
theorem dX3_countBin_35 : decode cX3_countBin 35 = .ok (.ireturn, 1) := by decide +kernel
theorem dX3_firstOfBin_0 : decode cX3_firstOfBin 0 = .ok (.iconst (-1), 1) := by decide +kernel
theorem dX3_firstOfBin_1 : decode cX3_firstOfBin 1 = .ok (.istore_n 2, 1) := by decide +kernel
theorem dX3_firstOfBin_2 : decode cX3_firstOfBin 2 = .ok (.iconst 0, 1) := by decide +kernel
theorem dX3_firstOfBin_3 : decode cX3_firstOfBin 3 = .ok (.istore_n 3, 1) := by decide +kernel
theorem dX3_firstOfBin_4 : decode cX3_firstOfBin 4 = .ok (.iload_n 3, 1) := by decide +kernel
theorem dX3_firstOfBin_5 : decode cX3_firstOfBin 5 = .ok (.aload_n 0, 1) := by decide +kernel
theorem dX3_firstOfBin_6 : decode cX3_firstOfBin 6 = .ok (.getfield 26, 3) := by decide +kernel
theorem dX3_firstOfBin_9 : decode cX3_firstOfBin 9 = .ok (.if_icmp .ge 48, 3) := by decide +kernel
theorem dX3_firstOfBin_12 : decode cX3_firstOfBin 12 = .ok (.aload_n 0, 1) := by decide +kernel
theorem dX3_firstOfBin_13 : decode cX3_firstOfBin 13 = .ok (.getfield 11, 3) := by decide +kernel
theorem dX3_firstOfBin_16 : decode cX3_firstOfBin 16 = .ok (.iload_n 3, 1) := by decide +kernel
theorem dX3_firstOfBin_17 : decode cX3_firstOfBin 17 = .ok (.aaload, 1) := by decide +kernel
theorem dX3_firstOfBin_18 : decode cX3_firstOfBin 18 = .ok (.astore 4, 2) := by decide +kernel
theorem dX3_firstOfBin_20 : decode cX3_firstOfBin 20 = .ok (.aload 4, 2) := by decide +kernel
theorem dX3_firstOfBin_22 : decode cX3_firstOfBin 22 = .ok (.getfield 60, 3) := by decide +kernel
theorem dX3_firstOfBin_25 : decode cX3_firstOfBin 25 = .ok (.iconst 1, 1) := by decide +kernel
theorem dX3_firstOfBin_26 : decode cX3_firstOfBin 26 = .ok (.if_icmp .ne 25, 3) := by decide +kernel
theorem dX3_firstOfBin_29 : decode cX3_firstOfBin 29 = .ok (.iload_n 2, 1) := by decide +kernel
theorem dX3_firstOfBin_30 : decode cX3_firstOfBin 30 = .ok (.iconst (-1), 1) := by decide +kernel
theorem dX3_firstOfBin_31 : decode cX3_firstOfBin 31 = .ok (.if_icmp .eq 18, 3) := by decide +kernel
theorem dX3_firstOfBin_34 : decode cX3_firstOfBin 34 = .ok (.aload 4, 2) := by decide +kernel
theorem dX3_firstOfBin_36 : decode cX3_firstOfBin 36 = .ok (.aload_n 0, 1) := by decide +kernel
theorem dX3_firstOfBin_37 : decode cX3_firstOfBin 37 = .ok (.getfield 11, 3) := by decide +kernel
theorem dX3_firstOfBin_40 : decode cX3_firstOfBin 40 = .ok (.iload_n 2, 1) := by decide +kernel
theorem dX3_firstOfBin_41 : decode cX3_firstOfBin 41 = .ok (.aaload, 1) := by decide +kernel
theorem dX3_firstOfBin_42 : decode cX3_firstOfBin 42 = .ok (.iload_n 1, 1) := by decide +kernel
theorem dX3_firstOfBin_43 : decode cX3_firstOfBin 43 = .ok (.invokevirtual 134, 3) := by decide +kernel
theorem dX3_firstOfBin_46 : decode cX3_firstOfBin 46 = .ok (.ifCond .eq 5, 3) := by decide +kernel
theorem dX3_firstOfBin_49 : decode cX3_firstOfBin 49 = .ok (.iload_n 3, 1) := by decide +kernel
theorem dX3_firstOfBin_50 : decode cX3_firstOfBin 50 = .ok (.istore_n 2, 1) := by decide +kernel
theorem dX3_firstOfBin_51 : decode cX3_firstOfBin 51 = .ok (.iinc 3 1, 3) := by decide +kernel
theorem dX3_firstOfBin_54 : decode cX3_firstOfBin 54 = .ok (.goto (-50), 3) := by decide +kernel
theorem dX3_firstOfBin_57 : decode cX3_firstOfBin 57 = .ok (.iload_n 2, 1) := by decide +kernel
theorem dX3_firstOfBin_58 : decode cX3_firstOfBin 58 = .ok (.ireturn, 1) := by decide +kernel
theorem dX3_lotAt_0 : decode cX3_lotAt 0 = .ok (.iconst 0, 1) := by decide +kernel
theorem dX3_lotAt_1 : decode cX3_lotAt 1 = .ok (.istore_n 3, 1) := by decide +kernel
theorem dX3_lotAt_2 : decode cX3_lotAt 2 = .ok (.iload_n 3, 1) := by decide +kernel
theorem dX3_lotAt_3 : decode cX3_lotAt 3 = .ok (.aload_n 0, 1) := by decide +kernel
theorem dX3_lotAt_4 : decode cX3_lotAt 4 = .ok (.getfield 26, 3) := by decide +kernel
theorem dX3_lotAt_7 : decode cX3_lotAt 7 = .ok (.if_icmp .ge 39, 3) := by decide +kernel
theorem dX3_lotAt_10 : decode cX3_lotAt 10 = .ok (.aload_n 0, 1) := by decide +kernel
theorem dX3_lotAt_11 : decode cX3_lotAt 11 = .ok (.getfield 11, 3) := by decide +kernel
theorem dX3_lotAt_14 : decode cX3_lotAt 14 = .ok (.iload_n 3, 1) := by decide +kernel
theorem dX3_lotAt_15 : decode cX3_lotAt 15 = .ok (.aaload, 1) := by decide +kernel
theorem dX3_lotAt_16 : decode cX3_lotAt 16 = .ok (.astore 4, 2) := by decide +kernel
theorem dX3_lotAt_18 : decode cX3_lotAt 18 = .ok (.aload 4, 2) := by decide +kernel
theorem dX3_lotAt_20 : decode cX3_lotAt 20 = .ok (.getfield 60, 3) := by decide +kernel
theorem dX3_lotAt_23 : decode cX3_lotAt 23 = .ok (.iconst 1, 1) := by decide +kernel
theorem dX3_lotAt_24 : decode cX3_lotAt 24 = .ok (.if_icmp .ne 16, 3) := by decide +kernel
theorem dX3_lotAt_27 : decode cX3_lotAt 27 = .ok (.aload_n 0, 1) := by decide +kernel
theorem dX3_lotAt_28 : decode cX3_lotAt 28 = .ok (.aload 4, 2) := by decide +kernel
theorem dX3_lotAt_30 : decode cX3_lotAt 30 = .ok (.iload_n 2, 1) := by decide +kernel
theorem dX3_lotAt_31 : decode cX3_lotAt 31 = .ok (.invokevirtual 138, 3) := by decide +kernel
theorem dX3_lotAt_34 : decode cX3_lotAt 34 = .ok (.iload_n 1, 1) := by decide +kernel
theorem dX3_lotAt_35 : decode cX3_lotAt 35 = .ok (.if_icmp .ne 5, 3) := by decide +kernel
theorem dX3_lotAt_38 : decode cX3_lotAt 38 = .ok (.iload_n 3, 1) := by decide +kernel
theorem dX3_lotAt_39 : decode cX3_lotAt 39 = .ok (.ireturn, 1) := by decide +kernel
theorem dX3_lotAt_40 : decode cX3_lotAt 40 = .ok (.iinc 3 1, 3) := by decide +kernel
theorem dX3_lotAt_43 : decode cX3_lotAt 43 = .ok (.goto (-41), 3) := by decide +kernel
theorem dX3_lotAt_46 : decode cX3_lotAt 46 = .ok (.iconst (-1), 1) := by decide +kernel
theorem dX3_lotAt_47 : decode cX3_lotAt 47 = .ok (.ireturn, 1) := by decide +kernel
theorem dX3_countBefore_0 : decode cX3_countBefore 0 = .ok (.iconst 0, 1) := by decide +kernel
theorem dX3_countBefore_1 : decode cX3_countBefore 1 = .ok (.istore_n 3, 1) := by decide +kernel
theorem dX3_countBefore_2 : decode cX3_countBefore 2 = .ok (.iconst 0, 1) := by decide +kernel
theorem dX3_countBefore_3 : decode cX3_countBefore 3 = .ok (.istore 4, 2) := by decide +kernel
theorem dX3_countBefore_5 : decode cX3_countBefore 5 = .ok (.iload 4, 2) := by decide +kernel
theorem dX3_countBefore_7 : decode cX3_countBefore 7 = .ok (.aload_n 0, 1) := by decide +kernel
theorem dX3_countBefore_8 : decode cX3_countBefore 8 = .ok (.getfield 26, 3) := by decide +kernel
theorem dX3_countBefore_11 : decode cX3_countBefore 11 = .ok (.if_icmp .ge 40, 3) := by decide +kernel
theorem dX3_countBefore_14 : decode cX3_countBefore 14 = .ok (.aload_n 0, 1) := by decide +kernel
theorem dX3_countBefore_15 : decode cX3_countBefore 15 = .ok (.getfield 11, 3) := by decide +kernel
theorem dX3_countBefore_18 : decode cX3_countBefore 18 = .ok (.iload 4, 2) := by decide +kernel
theorem dX3_countBefore_20 : decode cX3_countBefore 20 = .ok (.aaload, 1) := by decide +kernel
theorem dX3_countBefore_21 : decode cX3_countBefore 21 = .ok (.astore 5, 2) := by decide +kernel
theorem dX3_countBefore_23 : decode cX3_countBefore 23 = .ok (.aload 5, 2) := by decide +kernel
theorem dX3_countBefore_25 : decode cX3_countBefore 25 = .ok (.getfield 60, 3) := by decide +kernel
theorem dX3_countBefore_28 : decode cX3_countBefore 28 = .ok (.iconst 1, 1) := by decide +kernel
theorem dX3_countBefore_29 : decode cX3_countBefore 29 = .ok (.if_icmp .ne 16, 3) := by decide +kernel
theorem dX3_countBefore_32 : decode cX3_countBefore 32 = .ok (.aload 5, 2) := by decide +kernel
theorem dX3_countBefore_34 : decode cX3_countBefore 34 = .ok (.aload_n 1, 1) := by decide +kernel
theorem dX3_countBefore_35 : decode cX3_countBefore 35 = .ok (.iload_n 2, 1) := by decide +kernel
theorem dX3_countBefore_36 : decode cX3_countBefore 36 = .ok (.invokevirtual 134, 3) := by decide +kernel
theorem dX3_countBefore_39 : decode cX3_countBefore 39 = .ok (.ifCond .eq 6, 3) := by decide +kernel
theorem dX3_countBefore_42 : decode cX3_countBefore 42 = .ok (.iinc 3 1, 3) := by decide +kernel
theorem dX3_countBefore_45 : decode cX3_countBefore 45 = .ok (.iinc 4 1, 3) := by decide +kernel
theorem dX3_countBefore_48 : decode cX3_countBefore 48 = .ok (.goto (-43), 3) := by decide +kernel
theorem dX3_countBefore_51 : decode cX3_countBefore 51 = .ok (.iload_n 3, 1) := by decide +kernel
theorem dX3_countBefore_52 : decode cX3_countBefore 52 = .ok (.ireturn, 1) := by decide +kernel
theorem dX4_init_0 : decode cX4_init 0 = .ok (.aload_n 0, 1) := by decide +kernel
theorem dX4_init_1 : decode cX4_init 1 = .ok (.invokespecial 3, 3) := by decide +kernel
theorem dX4_init_4 : decode cX4_init 4 = .ok (.aload_n 0, 1) := by decide +kernel
theorem dX4_init_5 : decode cX4_init 5 = .ok (.iconst 4, 1) := by decide +kernel
theorem dX4_init_6 : decode cX4_init 6 = .ok (.newarray .long, 2) := by decide +kernel
theorem dX4_init_8 : decode cX4_init 8 = .ok (.putfield 9, 3) := by decide +kernel
theorem dX4_init_11 : decode cX4_init 11 = .ok (.aload_n 0, 1) := by decide +kernel
theorem dX4_init_12 : decode cX4_init 12 = .ok (.iconst 4, 1) := by decide +kernel
theorem dX4_init_13 : decode cX4_init 13 = .ok (.newarray .int, 2) := by decide +kernel
theorem dX4_init_15 : decode cX4_init 15 = .ok (.putfield 15, 3) := by decide +kernel
theorem dX4_init_18 : decode cX4_init 18 = .ok (.aload_n 0, 1) := by decide +kernel
theorem dX4_init_19 : decode cX4_init 19 = .ok (.lconst 1, 1) := by decide +kernel
theorem dX4_init_20 : decode cX4_init 20 = .ok (.putfield 19, 3) := by decide +kernel
theorem dX4_init_23 : decode cX4_init 23 = .ok (.aload_n 0, 1) := by decide +kernel
theorem dX4_init_24 : decode cX4_init 24 = .ok (.iconst 1, 1) := by decide +kernel
theorem dX4_init_25 : decode cX4_init 25 = .ok (.putfield 23, 3) := by decide +kernel
theorem dX4_init_28 : decode cX4_init 28 = .ok (.return_, 1) := by decide +kernel
theorem dX4_solveCut_0 : decode cX4_solveCut 0 = .ok (.iconst 0, 1) := by decide +kernel
theorem dX4_solveCut_1 : decode cX4_solveCut 1 = .ok (.istore_n 3, 1) := by decide +kernel
theorem dX4_solveCut_2 : decode cX4_solveCut 2 = .ok (.iload_n 3, 1) := by decide +kernel
theorem dX4_solveCut_3 : decode cX4_solveCut 3 = .ok (.iconst 4, 1) := by decide +kernel
theorem dX4_solveCut_4 : decode cX4_solveCut 4 = .ok (.if_icmp .ge 26, 3) := by decide +kernel
theorem dX4_solveCut_7 : decode cX4_solveCut 7 = .ok (.aload_n 0, 1) := by decide +kernel
theorem dX4_solveCut_8 : decode cX4_solveCut 8 = .ok (.getfield 15, 3) := by decide +kernel
theorem dX4_solveCut_11 : decode cX4_solveCut 11 = .ok (.iload_n 3, 1) := by decide +kernel
theorem dX4_solveCut_12 : decode cX4_solveCut 12 = .ok (.iload_n 3, 1) := by decide +kernel
theorem dX4_solveCut_13 : decode cX4_solveCut 13 = .ok (.iload_n 2, 1) := by decide +kernel
theorem dX4_solveCut_14 : decode cX4_solveCut 14 = .ok (.if_icmp .ge 8, 3) := by decide +kernel
theorem dX4_solveCut_17 : decode cX4_solveCut 17 = .ok (.bipush 10, 2) := by decide +kernel
theorem dX4_solveCut_19 : decode cX4_solveCut 19 = .ok (.goto 4, 3) := by decide +kernel
theorem dX4_solveCut_22 : decode cX4_solveCut 22 = .ok (.iconst 0, 1) := by decide +kernel
theorem dX4_solveCut_23 : decode cX4_solveCut 23 = .ok (.iastore, 1) := by decide +kernel
theorem dX4_solveCut_24 : decode cX4_solveCut 24 = .ok (.iinc 3 1, 3) := by decide +kernel
theorem dX4_solveCut_27 : decode cX4_solveCut 27 = .ok (.goto (-25), 3) := by decide +kernel
theorem dX4_solveCut_30 : decode cX4_solveCut 30 = .ok (.aload_n 0, 1) := by decide +kernel
theorem dX4_solveCut_31 : decode cX4_solveCut 31 = .ok (.aload_n 1, 1) := by decide +kernel
theorem dX4_solveCut_32 : decode cX4_solveCut 32 = .ok (.aload_n 0, 1) := by decide +kernel
theorem dX4_solveCut_33 : decode cX4_solveCut 33 = .ok (.getfield 15, 3) := by decide +kernel
theorem dX4_solveCut_36 : decode cX4_solveCut 36 = .ok (.invokevirtual 27, 3) := by decide +kernel
theorem dX4_solveCut_39 : decode cX4_solveCut 39 = .ok (.return_, 1) := by decide +kernel
theorem dX4_solve_0 : decode cX4_solve 0 = .ok (.aload_n 0, 1) := by decide +kernel
theorem dX4_solve_1 : decode cX4_solve 1 = .ok (.lconst 1, 1) := by decide +kernel
theorem dX4_solve_2 : decode cX4_solve 2 = .ok (.putfield 19, 3) := by decide +kernel
theorem dX4_solve_5 : decode cX4_solve 5 = .ok (.aload_n 0, 1) := by decide +kernel
theorem dX4_solve_6 : decode cX4_solve 6 = .ok (.iconst 1, 1) := by decide +kernel
theorem dX4_solve_7 : decode cX4_solve 7 = .ok (.putfield 23, 3) := by decide +kernel
theorem dX4_solve_10 : decode cX4_solve 10 = .ok (.iconst 0, 1) := by decide +kernel
theorem dX4_solve_11 : decode cX4_solve 11 = .ok (.istore_n 3, 1) := by decide +kernel
theorem dX4_solve_12 : decode cX4_solve 12 = .ok (.iload_n 3, 1) := by decide +kernel
theorem dX4_solve_13 : decode cX4_solve 13 = .ok (.iconst 4, 1) := by decide +kernel
theorem dX4_solve_14 : decode cX4_solve 14 = .ok (.if_icmp .ge 18, 3) := by decide +kernel
theorem dX4_solve_17 : decode cX4_solve 17 = .ok (.aload_n 0, 1) := by decide +kernel
theorem dX4_solve_18 : decode cX4_solve 18 = .ok (.aload_n 1, 1) := by decide +kernel
theorem dX4_solve_19 : decode cX4_solve 19 = .ok (.iload_n 3, 1) := by decide +kernel
theorem dX4_solve_20 : decode cX4_solve 20 = .ok (.aload_n 2, 1) := by decide +kernel
theorem dX4_solve_21 : decode cX4_solve 21 = .ok (.iload_n 3, 1) := by decide +kernel
theorem dX4_solve_22 : decode cX4_solve 22 = .ok (.iaload, 1) := by decide +kernel
theorem dX4_solve_23 : decode cX4_solve 23 = .ok (.invokevirtual 31, 3) := by decide +kernel
theorem dX4_solve_26 : decode cX4_solve 26 = .ok (.iinc 3 1, 3) := by decide +kernel
theorem dX4_solve_29 : decode cX4_solve 29 = .ok (.goto (-17), 3) := by decide +kernel
theorem dX4_solve_32 : decode cX4_solve 32 = .ok (.return_, 1) := by decide +kernel
theorem dX4_solveSize_0 : decode cX4_solveSize 0 = .ok (.aload_n 0, 1) := by decide +kernel
theorem dX4_solveSize_1 : decode cX4_solveSize 1 = .ok (.aload_n 1, 1) := by decide +kernel
theorem dX4_solveSize_2 : decode cX4_solveSize 2 = .ok (.iload_n 2, 1) := by decide +kernel
theorem dX4_solveSize_3 : decode cX4_solveSize 3 = .ok (.invokevirtual 35, 3) := by decide +kernel
theorem dX4_solveSize_6 : decode cX4_solveSize 6 = .ok (.lstore 4, 2) := by decide +kernel
theorem dX4_solveSize_8 : decode cX4_solveSize 8 = .ok (.aload_n 1, 1) := by decide +kernel
theorem dX4_solveSize_9 : decode cX4_solveSize 9 = .ok (.getfield 39, 3) := by decide +kernel
theorem dX4_solveSize_12 : decode cX4_solveSize 12 = .ok (.iload_n 2, 1) := by decide +kernel
theorem dX4_solveSize_13 : decode cX4_solveSize 13 = .ok (.iaload, 1) := by decide +kernel
theorem dX4_solveSize_14 : decode cX4_solveSize 14 = .ok (.istore 6, 2) := by decide +kernel
theorem dX4_solveSize_16 : decode cX4_solveSize 16 = .ok (.bipush 100, 2) := by decide +kernel
theorem dX4_solveSize_18 : decode cX4_solveSize 18 = .ok (.iload_n 3, 1) := by decide +kernel
theorem dX4_solveSize_19 : decode cX4_solveSize 19 = .ok (.aload_n 1, 1) := by decide +kernel
theorem dX4_solveSize_20 : decode cX4_solveSize 20 = .ok (.getfield 44, 3) := by decide +kernel
theorem dX4_solveSize_23 : decode cX4_solveSize 23 = .ok (.iload_n 2, 1) := by decide +kernel
theorem dX4_solveSize_24 : decode cX4_solveSize 24 = .ok (.aaload, 1) := by decide +kernel
theorem dX4_solveSize_25 : decode cX4_solveSize 25 = .ok (.iload_n 2, 1) := by decide +kernel
theorem dX4_solveSize_26 : decode cX4_solveSize 26 = .ok (.iaload, 1) := by decide +kernel
theorem dX4_solveSize_27 : decode cX4_solveSize 27 = .ok (.imul, 1) := by decide +kernel
theorem dX4_solveSize_28 : decode cX4_solveSize 28 = .ok (.isub, 1) := by decide +kernel
theorem dX4_solveSize_29 : decode cX4_solveSize 29 = .ok (.istore 7, 2) := by decide +kernel
theorem dX4_solveSize_31 : decode cX4_solveSize 31 = .ok (.iload 7, 2) := by decide +kernel
theorem dX4_solveSize_33 : decode cX4_solveSize 33 = .ok (.ifCond .ne 39, 3) := by decide +kernel
theorem dX4_solveSize_36 : decode cX4_solveSize 36 = .ok (.aload_n 0, 1) := by decide +kernel
theorem dX4_solveSize_37 : decode cX4_solveSize 37 = .ok (.getfield 9, 3) := by decide +kernel
theorem dX4_solveSize_40 : decode cX4_solveSize 40 = .ok (.iload_n 2, 1) := by decide +kernel
theorem dX4_solveSize_41 : decode cX4_solveSize 41 = .ok (.lconst 0, 1) := by decide +kernel
theorem dX4_solveSize_42 : decode cX4_solveSize 42 = .ok (.lastore, 1) := by decide +kernel
theorem dX4_solveSize_43 : decode cX4_solveSize 43 = .ok (.aload_n 0, 1) := by decide +kernel
theorem dX4_solveSize_44 : decode cX4_solveSize 44 = .ok (.aload_n 0, 1) := by decide +kernel
theorem dX4_solveSize_45 : decode cX4_solveSize 45 = .ok (.getfield 23, 3) := by decide +kernel
theorem dX4_solveSize_48 : decode cX4_solveSize 48 = .ok (.ifCond .eq 19, 3) := by decide +kernel
theorem dX4_solveSize_51 : decode cX4_solveSize 51 = .ok (.iload 6, 2) := by decide +kernel
theorem dX4_solveSize_53 : decode cX4_solveSize 53 = .ok (.ifCond .ne 14, 3) := by decide +kernel
theorem dX4_solveSize_56 : decode cX4_solveSize 56 = .ok (.lload 4, 2) := by decide +kernel
theorem dX4_solveSize_58 : decode cX4_solveSize 58 = .ok (.lconst 0, 1) := by decide +kernel
theorem dX4_solveSize_59 : decode cX4_solveSize 59 = .ok (.lcmp, 1) := by decide +kernel
theorem dX4_solveSize_60 : decode cX4_solveSize 60 = .ok (.ifCond .ne 7, 3) := by decide +kernel
theorem dX4_solveSize_63 : decode cX4_solveSize 63 = .ok (.iconst 1, 1) := by decide +kernel
theorem dX4_solveSize_64 : decode cX4_solveSize 64 = .ok (.goto 4, 3) := by decide +kernel
theorem dX4_solveSize_67 : decode cX4_solveSize 67 = .ok (.iconst 0, 1) := by decide +kernel
theorem dX4_solveSize_68 : decode cX4_solveSize 68 = .ok (.putfield 23, 3) := by decide +kernel
theorem dX4_solveSize_71 : decode cX4_solveSize 71 = .ok (.return_, 1) := by decide +kernel
theorem dX4_solveSize_72 : decode cX4_solveSize 72 = .ok (.aload_n 0, 1) := by decide +kernel
theorem dX4_solveSize_73 : decode cX4_solveSize 73 = .ok (.getfield 9, 3) := by decide +kernel
theorem dX4_solveSize_76 : decode cX4_solveSize 76 = .ok (.iload_n 2, 1) := by decide +kernel
theorem dX4_solveSize_77 : decode cX4_solveSize 77 = .ok (.bipush 100, 2) := by decide +kernel
theorem dX4_solveSize_79 : decode cX4_solveSize 79 = .ok (.iload 6, 2) := by decide +kernel
theorem dX4_solveSize_81 : decode cX4_solveSize 81 = .ok (.imul, 1) := by decide +kernel
theorem dX4_solveSize_82 : decode cX4_solveSize 82 = .ok (.i2l, 1) := by decide +kernel
theorem dX4_solveSize_83 : decode cX4_solveSize 83 = .ok (.aload_n 0, 1) := by decide +kernel
theorem dX4_solveSize_84 : decode cX4_solveSize 84 = .ok (.getfield 19, 3) := by decide +kernel
theorem dX4_solveSize_87 : decode cX4_solveSize 87 = .ok (.lmul, 1) := by decide +kernel
theorem dX4_solveSize_88 : decode cX4_solveSize 88 = .ok (.iload_n 3, 1) := by decide +kernel
theorem dX4_solveSize_89 : decode cX4_solveSize 89 = .ok (.i2l, 1) := by decide +kernel
theorem dX4_solveSize_90 : decode cX4_solveSize 90 = .ok (.lload 4, 2) := by decide +kernel
theorem dX4_solveSize_92 : decode cX4_solveSize 92 = .ok (.lmul, 1) := by decide +kernel
theorem dX4_solveSize_93 : decode cX4_solveSize 93 = .ok (.ladd, 1) := by decide +kernel
theorem dX4_solveSize_94 : decode cX4_solveSize 94 = .ok (.lastore, 1) := by decide +kernel
theorem dX4_solveSize_95 : decode cX4_solveSize 95 = .ok (.aload_n 0, 1) := by decide +kernel
theorem dX4_solveSize_96 : decode cX4_solveSize 96 = .ok (.dup, 1) := by decide +kernel
theorem dX4_solveSize_97 : decode cX4_solveSize 97 = .ok (.getfield 19, 3) := by decide +kernel
theorem dX4_solveSize_100 : decode cX4_solveSize 100 = .ok (.iload 7, 2) := by decide +kernel
theorem dX4_solveSize_102 : decode cX4_solveSize 102 = .ok (.i2l, 1) := by decide +kernel
theorem dX4_solveSize_103 : decode cX4_solveSize 103 = .ok (.lmul, 1) := by decide +kernel
theorem dX4_solveSize_104 : decode cX4_solveSize 104 = .ok (.putfield 19, 3) := by decide +kernel
theorem dX4_solveSize_107 : decode cX4_solveSize 107 = .ok (.iconst 0, 1) := by decide +kernel
theorem dX4_solveSize_108 : decode cX4_solveSize 108 = .ok (.istore 8, 2) := by decide +kernel
theorem dX4_solveSize_110 : decode cX4_solveSize 110 = .ok (.iload 8, 2) := by decide +kernel
theorem dX4_solveSize_112 : decode cX4_solveSize 112 = .ok (.iload_n 2, 1) := by decide +kernel
theorem dX4_solveSize_113 : decode cX4_solveSize 113 = .ok (.if_icmp .ge 22, 3) := by decide +kernel
theorem dX4_solveSize_116 : decode cX4_solveSize 116 = .ok (.aload_n 0, 1) := by decide +kernel
theorem dX4_solveSize_117 : decode cX4_solveSize 117 = .ok (.getfield 9, 3) := by decide +kernel
theorem dX4_solveSize_120 : decode cX4_solveSize 120 = .ok (.iload 8, 2) := by decide +kernel
theorem dX4_solveSize_122 : decode cX4_solveSize 122 = .ok (.dup2, 1) := by decide +kernel
theorem dX4_solveSize_123 : decode cX4_solveSize 123 = .ok (.laload, 1) := by decide +kernel
theorem dX4_solveSize_124 : decode cX4_solveSize 124 = .ok (.iload 7, 2) := by decide +kernel
theorem dX4_solveSize_126 : decode cX4_solveSize 126 = .ok (.i2l, 1) := by decide +kernel
theorem dX4_solveSize_127 : decode cX4_solveSize 127 = .ok (.lmul, 1) := by decide +kernel
theorem dX4_solveSize_128 : decode cX4_solveSize 128 = .ok (.lastore, 1) := by decide +kernel
theorem dX4_solveSize_129 : decode cX4_solveSize 129 = .ok (.iinc 8 1, 3) := by decide +kernel
theorem dX4_solveSize_132 : decode cX4_solveSize 132 = .ok (.goto (-22), 3) := by decide +kernel
theorem dX4_solveSize_135 : decode cX4_solveSize 135 = .ok (.return_, 1) := by decide +kernel
theorem dX4_brokenInto_0 : decode cX4_brokenInto 0 = .ok (.lconst 0, 1) := by decide +kernel
theorem dX4_brokenInto_1 : decode cX4_brokenInto 1 = .ok (.lstore_n 3, 1) := by decide +kernel
theorem dX4_brokenInto_2 : decode cX4_brokenInto 2 = .ok (.iconst 0, 1) := by decide +kernel
theorem dX4_brokenInto_3 : decode cX4_brokenInto 3 = .ok (.istore 5, 2) := by decide +kernel
theorem dX4_brokenInto_5 : decode cX4_brokenInto 5 = .ok (.iload 5, 2) := by decide +kernel
theorem dX4_brokenInto_7 : decode cX4_brokenInto 7 = .ok (.iload_n 2, 1) := by decide +kernel
theorem dX4_brokenInto_8 : decode cX4_brokenInto 8 = .ok (.if_icmp .ge 30, 3) := by decide +kernel
theorem dX4_brokenInto_11 : decode cX4_brokenInto 11 = .ok (.lload_n 3, 1) := by decide +kernel
theorem dX4_brokenInto_12 : decode cX4_brokenInto 12 = .ok (.aload_n 0, 1) := by decide +kernel
theorem dX4_brokenInto_13 : decode cX4_brokenInto 13 = .ok (.getfield 9, 3) := by decide +kernel
theorem dX4_brokenInto_16 : decode cX4_brokenInto 16 = .ok (.iload 5, 2) := by decide +kernel
theorem dX4_brokenInto_18 : decode cX4_brokenInto 18 = .ok (.laload, 1) := by decide +kernel
theorem dX4_brokenInto_19 : decode cX4_brokenInto 19 = .ok (.aload_n 1, 1) := by decide +kernel
theorem dX4_brokenInto_20 : decode cX4_brokenInto 20 = .ok (.getfield 44, 3) := by decide +kernel
theorem dX4_brokenInto_23 : decode cX4_brokenInto 23 = .ok (.iload 5, 2) := by decide +kernel
theorem dX4_brokenInto_25 : decode cX4_brokenInto 25 = .ok (.aaload, 1) := by decide +kernel
theorem dX4_brokenInto_26 : decode cX4_brokenInto 26 = .ok (.iload_n 2, 1) := by decide +kernel
theorem dX4_brokenInto_27 : decode cX4_brokenInto 27 = .ok (.iaload, 1) := by decide +kernel
theorem dX4_brokenInto_28 : decode cX4_brokenInto 28 = .ok (.i2l, 1) := by decide +kernel
theorem dX4_brokenInto_29 : decode cX4_brokenInto 29 = .ok (.lmul, 1) := by decide +kernel
theorem dX4_brokenInto_30 : decode cX4_brokenInto 30 = .ok (.ladd, 1) := by decide +kernel
theorem dX4_brokenInto_31 : decode cX4_brokenInto 31 = .ok (.lstore_n 3, 1) := by decide +kernel
theorem dX4_brokenInto_32 : decode cX4_brokenInto 32 = .ok (.iinc 5 1, 3) := by decide +kernel
theorem dX4_brokenInto_35 : decode cX4_brokenInto 35 = .ok (.goto (-30), 3) := by decide +kernel
theorem dX4_brokenInto_38 : decode cX4_brokenInto 38 = .ok (.lload_n 3, 1) := by decide +kernel
theorem dX4_brokenInto_39 : decode cX4_brokenInto 39 = .ok (.lreturn, 1) := by decide +kernel
theorem dX4_sumOfLoads_0 : decode cX4_sumOfLoads 0 = .ok (.lconst 0, 1) := by decide +kernel
theorem dX4_sumOfLoads_1 : decode cX4_sumOfLoads 1 = .ok (.lstore_n 1, 1) := by decide +kernel
theorem dX4_sumOfLoads_2 : decode cX4_sumOfLoads 2 = .ok (.aload_n 0, 1) := by decide +kernel
theorem dX4_sumOfLoads_3 : decode cX4_sumOfLoads 3 = .ok (.getfield 9, 3) := by decide +kernel
theorem dX4_sumOfLoads_6 : decode cX4_sumOfLoads 6 = .ok (.astore_n 3, 1) := by decide +kernel
theorem dX4_sumOfLoads_7 : decode cX4_sumOfLoads 7 = .ok (.aload_n 3, 1) := by decide +kernel
theorem dX4_sumOfLoads_8 : decode cX4_sumOfLoads 8 = .ok (.arraylength, 1) := by decide +kernel
theorem dX4_sumOfLoads_9 : decode cX4_sumOfLoads 9 = .ok (.istore 4, 2) := by decide +kernel
theorem dX4_sumOfLoads_11 : decode cX4_sumOfLoads 11 = .ok (.iconst 0, 1) := by decide +kernel
theorem dX4_sumOfLoads_12 : decode cX4_sumOfLoads 12 = .ok (.istore 5, 2) := by decide +kernel
theorem dX4_sumOfLoads_14 : decode cX4_sumOfLoads 14 = .ok (.iload 5, 2) := by decide +kernel
theorem dX4_sumOfLoads_16 : decode cX4_sumOfLoads 16 = .ok (.iload 4, 2) := by decide +kernel
theorem dX4_sumOfLoads_18 : decode cX4_sumOfLoads 18 = .ok (.if_icmp .ge 20, 3) := by decide +kernel
theorem dX4_sumOfLoads_21 : decode cX4_sumOfLoads 21 = .ok (.aload_n 3, 1) := by decide +kernel
theorem dX4_sumOfLoads_22 : decode cX4_sumOfLoads 22 = .ok (.iload 5, 2) := by decide +kernel
theorem dX4_sumOfLoads_24 : decode cX4_sumOfLoads 24 = .ok (.laload, 1) := by decide +kernel
theorem dX4_sumOfLoads_25 : decode cX4_sumOfLoads 25 = .ok (.lstore 6, 2) := by decide +kernel
theorem dX4_sumOfLoads_27 : decode cX4_sumOfLoads 27 = .ok (.lload_n 1, 1) := by decide +kernel
theorem dX4_sumOfLoads_28 : decode cX4_sumOfLoads 28 = .ok (.lload 6, 2) := by decide +kernel
theorem dX4_sumOfLoads_30 : decode cX4_sumOfLoads 30 = .ok (.ladd, 1) := by decide +kernel
theorem dX4_sumOfLoads_31 : decode cX4_sumOfLoads 31 = .ok (.lstore_n 1, 1) := by decide +kernel
theorem dX4_sumOfLoads_32 : decode cX4_sumOfLoads 32 = .ok (.iinc 5 1, 3) := by decide +kernel
theorem dX4_sumOfLoads_35 : decode cX4_sumOfLoads 35 = .ok (.goto (-21), 3) := by decide +kernel
theorem dX4_sumOfLoads_38 : decode cX4_sumOfLoads 38 = .ok (.lload_n 1, 1) := by decide +kernel
theorem dX4_sumOfLoads_39 : decode cX4_sumOfLoads 39 = .ok (.lreturn, 1) := by decide +kernel
theorem dX4_scaledPower_0 : decode cX4_scaledPower 0 = .ok (.lconst 0, 1) := by decide +kernel
theorem dX4_scaledPower_1 : decode cX4_scaledPower 1 = .ok (.lstore_n 2, 1) := by decide +kernel
theorem dX4_scaledPower_2 : decode cX4_scaledPower 2 = .ok (.iconst 0, 1) := by decide +kernel
theorem dX4_scaledPower_3 : decode cX4_scaledPower 3 = .ok (.istore 4, 2) := by decide +kernel
theorem dX4_scaledPower_5 : decode cX4_scaledPower 5 = .ok (.iload 4, 2) := by decide +kernel
theorem dX4_scaledPower_7 : decode cX4_scaledPower 7 = .ok (.iconst 4, 1) := by decide +kernel
theorem dX4_scaledPower_8 : decode cX4_scaledPower 8 = .ok (.if_icmp .ge 25, 3) := by decide +kernel
theorem dX4_scaledPower_11 : decode cX4_scaledPower 11 = .ok (.lload_n 2, 1) := by decide +kernel
theorem dX4_scaledPower_12 : decode cX4_scaledPower 12 = .ok (.aload_n 1, 1) := by decide +kernel
theorem dX4_scaledPower_13 : decode cX4_scaledPower 13 = .ok (.iload 4, 2) := by decide +kernel
theorem dX4_scaledPower_15 : decode cX4_scaledPower 15 = .ok (.iaload, 1) := by decide +kernel
theorem dX4_scaledPower_16 : decode cX4_scaledPower 16 = .ok (.i2l, 1) := by decide +kernel
theorem dX4_scaledPower_17 : decode cX4_scaledPower 17 = .ok (.aload_n 0, 1) := by decide +kernel
theorem dX4_scaledPower_18 : decode cX4_scaledPower 18 = .ok (.getfield 9, 3) := by decide +kernel
theorem dX4_scaledPower_21 : decode cX4_scaledPower 21 = .ok (.iload 4, 2) := by decide +kernel
theorem dX4_scaledPower_23 : decode cX4_scaledPower 23 = .ok (.laload, 1) := by decide +kernel
theorem dX4_scaledPower_24 : decode cX4_scaledPower 24 = .ok (.lmul, 1) := by decide +kernel
theorem dX4_scaledPower_25 : decode cX4_scaledPower 25 = .ok (.ladd, 1) := by decide +kernel
theorem dX4_scaledPower_26 : decode cX4_scaledPower 26 = .ok (.lstore_n 2, 1) := by decide +kernel
theorem dX4_scaledPower_27 : decode cX4_scaledPower 27 = .ok (.iinc 4 1, 3) := by decide +kernel
theorem dX4_scaledPower_30 : decode cX4_scaledPower 30 = .ok (.goto (-25), 3) := by decide +kernel
theorem dX4_scaledPower_33 : decode cX4_scaledPower 33 = .ok (.lload_n 2, 1) := by decide +kernel
theorem dX4_scaledPower_34 : decode cX4_scaledPower 34 = .ok (.lreturn, 1) := by decide +kernel
theorem dX5_init_0 : decode cX5_init 0 = .ok (.aload_n 0, 1) := by decide +kernel
theorem dX5_init_1 : decode cX5_init 1 = .ok (.invokespecial 1, 3) := by decide +kernel
theorem dX5_init_4 : decode cX5_init 4 = .ok (.aload_n 0, 1) := by decide +kernel
theorem dX5_init_5 : decode cX5_init 5 = .ok (.new 7, 3) := by decide +kernel
theorem dX5_init_8 : decode cX5_init 8 = .ok (.dup, 1) := by decide +kernel
theorem dX5_init_9 : decode cX5_init 9 = .ok (.invokespecial 9, 3) := by decide +kernel
theorem dX5_init_12 : decode cX5_init 12 = .ok (.putfield 10, 3) := by decide +kernel
theorem dX5_init_15 : decode cX5_init 15 = .ok (.aload_n 0, 1) := by decide +kernel
theorem dX5_init_16 : decode cX5_init 16 = .ok (.iconst 2, 1) := by decide +kernel
theorem dX5_init_17 : decode cX5_init 17 = .ok (.anewarray 7, 3) := by decide +kernel
theorem dX5_init_20 : decode cX5_init 20 = .ok (.dup, 1) := by decide +kernel
theorem dX5_init_21 : decode cX5_init 21 = .ok (.iconst 0, 1) := by decide +kernel
theorem dX5_init_22 : decode cX5_init 22 = .ok (.new 7, 3) := by decide +kernel
theorem dX5_init_25 : decode cX5_init 25 = .ok (.dup, 1) := by decide +kernel
theorem dX5_init_26 : decode cX5_init 26 = .ok (.invokespecial 9, 3) := by decide +kernel
theorem dX5_init_29 : decode cX5_init 29 = .ok (.aastore, 1) := by decide +kernel
theorem dX5_init_30 : decode cX5_init 30 = .ok (.dup, 1) := by decide +kernel
theorem dX5_init_31 : decode cX5_init 31 = .ok (.iconst 1, 1) := by decide +kernel
theorem dX5_init_32 : decode cX5_init 32 = .ok (.new 7, 3) := by decide +kernel
theorem dX5_init_35 : decode cX5_init 35 = .ok (.dup, 1) := by decide +kernel
theorem dX5_init_36 : decode cX5_init 36 = .ok (.invokespecial 9, 3) := by decide +kernel
theorem dX5_init_39 : decode cX5_init 39 = .ok (.aastore, 1) := by decide +kernel
theorem dX5_init_40 : decode cX5_init 40 = .ok (.putfield 16, 3) := by decide +kernel
theorem dX5_init_43 : decode cX5_init 43 = .ok (.aload_n 0, 1) := by decide +kernel
theorem dX5_init_44 : decode cX5_init 44 = .ok (.iconst 2, 1) := by decide +kernel
theorem dX5_init_45 : decode cX5_init 45 = .ok (.newarray .boolean, 2) := by decide +kernel
theorem dX5_init_47 : decode cX5_init 47 = .ok (.putfield 20, 3) := by decide +kernel
theorem dX5_init_50 : decode cX5_init 50 = .ok (.aload_n 0, 1) := by decide +kernel
theorem dX5_init_51 : decode cX5_init 51 = .ok (.new 24, 3) := by decide +kernel
theorem dX5_init_54 : decode cX5_init 54 = .ok (.dup, 1) := by decide +kernel
theorem dX5_init_55 : decode cX5_init 55 = .ok (.invokespecial 26, 3) := by decide +kernel
theorem dX5_init_58 : decode cX5_init 58 = .ok (.putfield 27, 3) := by decide +kernel
theorem dX5_init_61 : decode cX5_init 61 = .ok (.return_, 1) := by decide +kernel
theorem dX5_setBreakage_0 : decode cX5_setBreakage 0 = .ok (.iload_n 1, 1) := by decide +kernel
theorem dX5_setBreakage_1 : decode cX5_setBreakage 1 = .ok (.invokestatic 31, 3) := by decide +kernel
theorem dX5_setBreakage_4 : decode cX5_setBreakage 4 = .ok (.ifCond .ne 5, 3) := by decide +kernel
theorem dX5_setBreakage_7 : decode cX5_setBreakage 7 = .ok (.iconst (-1), 1) := by decide +kernel
theorem dX5_setBreakage_8 : decode cX5_setBreakage 8 = .ok (.ireturn, 1) := by decide +kernel
theorem dX5_setBreakage_9 : decode cX5_setBreakage 9 = .ok (.iload_n 1, 1) := by decide +kernel
theorem dX5_setBreakage_10 : decode cX5_setBreakage 10 = .ok (.iconst 1, 1) := by decide +kernel
theorem dX5_setBreakage_11 : decode cX5_setBreakage 11 = .ok (.iadd, 1) := by decide +kernel
theorem dX5_setBreakage_12 : decode cX5_setBreakage 12 = .ok (.iload_n 2, 1) := by decide +kernel
theorem dX5_setBreakage_13 : decode cX5_setBreakage 13 = .ok (.invokestatic 35, 3) := by decide +kernel
theorem dX5_setBreakage_16 : decode cX5_setBreakage 16 = .ok (.ifCond .eq 24, 3) := by decide +kernel
theorem dX5_setBreakage_19 : decode cX5_setBreakage 19 = .ok (.iload_n 1, 1) := by decide +kernel
theorem dX5_setBreakage_20 : decode cX5_setBreakage 20 = .ok (.iconst 2, 1) := by decide +kernel
theorem dX5_setBreakage_21 : decode cX5_setBreakage 21 = .ok (.iadd, 1) := by decide +kernel
theorem dX5_setBreakage_22 : decode cX5_setBreakage 22 = .ok (.iload_n 3, 1) := by decide +kernel
theorem dX5_setBreakage_23 : decode cX5_setBreakage 23 = .ok (.invokestatic 35, 3) := by decide +kernel
theorem dX5_setBreakage_26 : decode cX5_setBreakage 26 = .ok (.ifCond .eq 14, 3) := by decide +kernel
theorem dX5_setBreakage_29 : decode cX5_setBreakage 29 = .ok (.iload_n 1, 1) := by decide +kernel
theorem dX5_setBreakage_30 : decode cX5_setBreakage 30 = .ok (.iconst 3, 1) := by decide +kernel
theorem dX5_setBreakage_31 : decode cX5_setBreakage 31 = .ok (.iadd, 1) := by decide +kernel
theorem dX5_setBreakage_32 : decode cX5_setBreakage 32 = .ok (.iload 4, 2) := by decide +kernel
theorem dX5_setBreakage_34 : decode cX5_setBreakage 34 = .ok (.invokestatic 35, 3) := by decide +kernel
theorem dX5_setBreakage_37 : decode cX5_setBreakage 37 = .ok (.ifCond .ne 6, 3) := by decide +kernel
theorem dX5_setBreakage_40 : decode cX5_setBreakage 40 = .ok (.bipush (-3), 2) := by decide +kernel
theorem dX5_setBreakage_42 : decode cX5_setBreakage 42 = .ok (.ireturn, 1) := by decide +kernel
theorem dX5_setBreakage_43 : decode cX5_setBreakage 43 = .ok (.iload_n 2, 1) := by decide +kernel
theorem dX5_setBreakage_44 : decode cX5_setBreakage 44 = .ok (.iload_n 3, 1) := by decide +kernel
theorem dX5_setBreakage_45 : decode cX5_setBreakage 45 = .ok (.iadd, 1) := by decide +kernel
theorem dX5_setBreakage_46 : decode cX5_setBreakage 46 = .ok (.iload 4, 2) := by decide +kernel
theorem dX5_setBreakage_48 : decode cX5_setBreakage 48 = .ok (.iadd, 1) := by decide +kernel
theorem dX5_setBreakage_49 : decode cX5_setBreakage 49 = .ok (.bipush 10, 2) := by decide +kernel
theorem dX5_setBreakage_51 : decode cX5_setBreakage 51 = .ok (.if_icmp .le 6, 3) := by decide +kernel
theorem dX5_setBreakage_54 : decode cX5_setBreakage 54 = .ok (.bipush (-3), 2) := by decide +kernel
theorem dX5_setBreakage_56 : decode cX5_setBreakage 56 = .ok (.ireturn, 1) := by decide +kernel
theorem dX5_setBreakage_57 : decode cX5_setBreakage 57 = .ok (.aload_n 0, 1) := by decide +kernel
theorem dX5_setBreakage_58 : decode cX5_setBreakage 58 = .ok (.getfield 10, 3) := by decide +kernel
theorem dX5_setBreakage_61 : decode cX5_setBreakage 61 = .ok (.getfield 39, 3) := by decide +kernel
theorem dX5_setBreakage_64 : decode cX5_setBreakage 64 = .ok (.astore 5, 2) := by decide +kernel
theorem dX5_setBreakage_66 : decode cX5_setBreakage 66 = .ok (.aload 5, 2) := by decide +kernel
theorem dX5_setBreakage_68 : decode cX5_setBreakage 68 = .ok (.iload_n 1, 1) := by decide +kernel
theorem dX5_setBreakage_69 : decode cX5_setBreakage 69 = .ok (.iload_n 1, 1) := by decide +kernel
theorem dX5_setBreakage_70 : decode cX5_setBreakage 70 = .ok (.iconst 1, 1) := by decide +kernel
theorem dX5_setBreakage_71 : decode cX5_setBreakage 71 = .ok (.iadd, 1) := by decide +kernel
theorem dX5_setBreakage_72 : decode cX5_setBreakage 72 = .ok (.iload_n 2, 1) := by decide +kernel
theorem dX5_setBreakage_73 : decode cX5_setBreakage 73 = .ok (.invokevirtual 43, 3) := by decide +kernel
theorem dX5_setBreakage_76 : decode cX5_setBreakage 76 = .ok (.aload 5, 2) := by decide +kernel
theorem dX5_setBreakage_78 : decode cX5_setBreakage 78 = .ok (.iload_n 1, 1) := by decide +kernel
theorem dX5_setBreakage_79 : decode cX5_setBreakage 79 = .ok (.iload_n 1, 1) := by decide +kernel
theorem dX5_setBreakage_80 : decode cX5_setBreakage 80 = .ok (.iconst 2, 1) := by decide +kernel
theorem dX5_setBreakage_81 : decode cX5_setBreakage 81 = .ok (.iadd, 1) := by decide +kernel
theorem dX5_setBreakage_82 : decode cX5_setBreakage 82 = .ok (.iload_n 3, 1) := by decide +kernel
theorem dX5_setBreakage_83 : decode cX5_setBreakage 83 = .ok (.invokevirtual 43, 3) := by decide +kernel
theorem dX5_setBreakage_86 : decode cX5_setBreakage 86 = .ok (.aload 5, 2) := by decide +kernel
theorem dX5_setBreakage_88 : decode cX5_setBreakage 88 = .ok (.iload_n 1, 1) := by decide +kernel
theorem dX5_setBreakage_89 : decode cX5_setBreakage 89 = .ok (.iload_n 1, 1) := by decide +kernel
theorem dX5_setBreakage_90 : decode cX5_setBreakage 90 = .ok (.iconst 3, 1) := by decide +kernel
theorem dX5_setBreakage_91 : decode cX5_setBreakage 91 = .ok (.iadd, 1) := by decide +kernel
theorem dX5_setBreakage_92 : decode cX5_setBreakage 92 = .ok (.iload 4, 2) := by decide +kernel
theorem dX5_setBreakage_94 : decode cX5_setBreakage 94 = .ok (.invokevirtual 43, 3) := by decide +kernel
theorem dX5_setBreakage_97 : decode cX5_setBreakage 97 = .ok (.bipush 10, 2) := by decide +kernel
theorem dX5_setBreakage_99 : decode cX5_setBreakage 99 = .ok (.iload_n 2, 1) := by decide +kernel
theorem dX5_setBreakage_100 : decode cX5_setBreakage 100 = .ok (.isub, 1) := by decide +kernel
theorem dX5_setBreakage_101 : decode cX5_setBreakage 101 = .ok (.iload_n 3, 1) := by decide +kernel
theorem dX5_setBreakage_102 : decode cX5_setBreakage 102 = .ok (.isub, 1) := by decide +kernel
theorem dX5_setBreakage_103 : decode cX5_setBreakage 103 = .ok (.iload 4, 2) := by decide +kernel
theorem dX5_setBreakage_105 : decode cX5_setBreakage 105 = .ok (.isub, 1) := by decide +kernel
theorem dX5_setBreakage_106 : decode cX5_setBreakage 106 = .ok (.istore 6, 2) := by decide +kernel
theorem dX5_setBreakage_108 : decode cX5_setBreakage 108 = .ok (.aload 5, 2) := by decide +kernel
theorem dX5_setBreakage_110 : decode cX5_setBreakage 110 = .ok (.iload_n 1, 1) := by decide +kernel
theorem dX5_setBreakage_111 : decode cX5_setBreakage 111 = .ok (.iload_n 1, 1) := by decide +kernel
theorem dX5_setBreakage_112 : decode cX5_setBreakage 112 = .ok (.iload 6, 2) := by decide +kernel
theorem dX5_setBreakage_114 : decode cX5_setBreakage 114 = .ok (.invokevirtual 43, 3) := by decide +kernel
theorem dX5_setBreakage_117 : decode cX5_setBreakage 117 = .ok (.iload 6, 2) := by decide +kernel
theorem dX5_setBreakage_119 : decode cX5_setBreakage 119 = .ok (.ireturn, 1) := by decide +kernel
theorem dX5_share_0 : decode cX5_share 0 = .ok (.iload_n 1, 1) := by decide +kernel
theorem dX5_share_1 : decode cX5_share 1 = .ok (.invokestatic 31, 3) := by decide +kernel
theorem dX5_share_4 : decode cX5_share 4 = .ok (.ifCond .eq 10, 3) := by decide +kernel
theorem dX5_share_7 : decode cX5_share 7 = .ok (.iload_n 2, 1) := by decide +kernel
theorem dX5_share_8 : decode cX5_share 8 = .ok (.invokestatic 31, 3) := by decide +kernel
theorem dX5_share_11 : decode cX5_share 11 = .ok (.ifCond .ne 5, 3) := by decide +kernel
theorem dX5_share_14 : decode cX5_share 14 = .ok (.iconst (-1), 1) := by decide +kernel
theorem dX5_share_15 : decode cX5_share 15 = .ok (.ireturn, 1) := by decide +kernel
theorem dX5_share_16 : decode cX5_share 16 = .ok (.aload_n 0, 1) := by decide +kernel
theorem dX5_share_17 : decode cX5_share 17 = .ok (.getfield 10, 3) := by decide +kernel
theorem dX5_share_20 : decode cX5_share 20 = .ok (.getfield 39, 3) := by decide +kernel
theorem dX5_share_23 : decode cX5_share 23 = .ok (.getfield 49, 3) := by decide +kernel
theorem dX5_share_26 : decode cX5_share 26 = .ok (.iload_n 1, 1) := by decide +kernel
theorem dX5_share_27 : decode cX5_share 27 = .ok (.aaload, 1) := by decide +kernel
theorem dX5_share_28 : decode cX5_share 28 = .ok (.iload_n 2, 1) := by decide +kernel
theorem dX5_share_29 : decode cX5_share 29 = .ok (.iaload, 1) := by decide +kernel
theorem dX5_share_30 : decode cX5_share 30 = .ok (.ireturn, 1) := by decide +kernel
theorem dX5_setReturn_0 : decode cX5_setReturn 0 = .ok (.aload_n 0, 1) := by decide +kernel
theorem dX5_setReturn_1 : decode cX5_setReturn 1 = .ok (.getfield 10, 3) := by decide +kernel
theorem dX5_setReturn_4 : decode cX5_setReturn 4 = .ok (.getfield 39, 3) := by decide +kernel
theorem dX5_setReturn_7 : decode cX5_setReturn 7 = .ok (.getfield 53, 3) := by decide +kernel
theorem dX5_setReturn_10 : decode cX5_setReturn 10 = .ok (.iload_n 1, 1) := by decide +kernel
theorem dX5_setReturn_11 : decode cX5_setReturn 11 = .ok (.iload_n 2, 1) := by decide +kernel
theorem dX5_setReturn_12 : decode cX5_setReturn 12 = .ok (.bipush 10, 2) := by decide +kernel
theorem dX5_setReturn_14 : decode cX5_setReturn 14 = .ok (.invokestatic 57, 3) := by decide +kernel
theorem dX5_setReturn_17 : decode cX5_setReturn 17 = .ok (.ireturn, 1) := by decide +kernel
theorem dX5_setWork_0 : decode cX5_setWork 0 = .ok (.aload_n 0, 1) := by decide +kernel
theorem dX5_setWork_1 : decode cX5_setWork 1 = .ok (.getfield 10, 3) := by decide +kernel
theorem dX5_setWork_4 : decode cX5_setWork 4 = .ok (.getfield 39, 3) := by decide +kernel
theorem dX5_setWork_7 : decode cX5_setWork 7 = .ok (.getfield 61, 3) := by decide +kernel
theorem dX5_setWork_10 : decode cX5_setWork 10 = .ok (.iload_n 1, 1) := by decide +kernel
theorem dX5_setWork_11 : decode cX5_setWork 11 = .ok (.iload_n 2, 1) := by decide +kernel
theorem dX5_setWork_12 : decode cX5_setWork 12 = .ok (.bipush 100, 2) := by decide +kernel
theorem dX5_setWork_14 : decode cX5_setWork 14 = .ok (.invokestatic 57, 3) := by decide +kernel
theorem dX5_setWork_17 : decode cX5_setWork 17 = .ok (.ireturn, 1) := by decide +kernel
theorem dX5_setFeed_0 : decode cX5_setFeed 0 = .ok (.aload_n 0, 1) := by decide +kernel
theorem dX5_setFeed_1 : decode cX5_setFeed 1 = .ok (.getfield 10, 3) := by decide +kernel
theorem dX5_setFeed_4 : decode cX5_setFeed 4 = .ok (.getfield 39, 3) := by decide +kernel
theorem dX5_setFeed_7 : decode cX5_setFeed 7 = .ok (.getfield 64, 3) := by decide +kernel
theorem dX5_setFeed_10 : decode cX5_setFeed 10 = .ok (.iload_n 1, 1) := by decide +kernel
theorem dX5_setFeed_11 : decode cX5_setFeed 11 = .ok (.iload_n 2, 1) := by decide +kernel
theorem dX5_setFeed_12 : decode cX5_setFeed 12 = .ok (.sipush 1000, 3) := by decide +kernel
theorem dX5_setFeed_15 : decode cX5_setFeed 15 = .ok (.invokestatic 57, 3) := by decide +kernel
theorem dX5_setFeed_18 : decode cX5_setFeed 18 = .ok (.ireturn, 1) := by decide +kernel
theorem dX5_load_0 : decode cX5_load 0 = .ok (.iload_n 1, 1) := by decide +kernel
theorem dX5_load_1 : decode cX5_load 1 = .ok (.invokestatic 31, 3) := by decide +kernel
theorem dX5_load_4 : decode cX5_load 4 = .ok (.ifCond .ne 7, 3) := by decide +kernel
theorem dX5_load_7 : decode cX5_load 7 = .ok (.ldc2_w 67, 3) := by decide +kernel
theorem dX5_load_10 : decode cX5_load 10 = .ok (.lreturn, 1) := by decide +kernel
theorem dX5_load_11 : decode cX5_load 11 = .ok (.iload_n 2, 1) := by decide +kernel
theorem dX5_load_12 : decode cX5_load 12 = .ok (.invokestatic 69, 3) := by decide +kernel
theorem dX5_load_15 : decode cX5_load 15 = .ok (.ifCond .ne 7, 3) := by decide +kernel
theorem dX5_load_18 : decode cX5_load 18 = .ok (.ldc2_w 72, 3) := by decide +kernel
theorem dX5_load_21 : decode cX5_load 21 = .ok (.lreturn, 1) := by decide +kernel
theorem dX5_load_22 : decode cX5_load 22 = .ok (.aload_n 0, 1) := by decide +kernel
theorem dX5_load_23 : decode cX5_load 23 = .ok (.getfield 27, 3) := by decide +kernel
theorem dX5_load_26 : decode cX5_load 26 = .ok (.aload_n 0, 1) := by decide +kernel
theorem dX5_load_27 : decode cX5_load 27 = .ok (.getfield 10, 3) := by decide +kernel
theorem dX5_load_30 : decode cX5_load 30 = .ok (.getfield 39, 3) := by decide +kernel
theorem dX5_load_33 : decode cX5_load 33 = .ok (.aload_n 0, 1) := by decide +kernel
theorem dX5_load_34 : decode cX5_load 34 = .ok (.getfield 10, 3) := by decide +kernel
theorem dX5_load_37 : decode cX5_load 37 = .ok (.getfield 39, 3) := by decide +kernel
theorem dX5_load_40 : decode cX5_load 40 = .ok (.getfield 53, 3) := by decide +kernel
theorem dX5_load_43 : decode cX5_load 43 = .ok (.invokevirtual 74, 3) := by decide +kernel
theorem dX5_load_46 : decode cX5_load 46 = .ok (.aload_n 0, 1) := by decide +kernel
theorem dX5_load_47 : decode cX5_load 47 = .ok (.getfield 27, 3) := by decide +kernel
theorem dX5_load_50 : decode cX5_load 50 = .ok (.getfield 78, 3) := by decide +kernel
theorem dX5_load_53 : decode cX5_load 53 = .ok (.ifCond .ne 7, 3) := by decide +kernel
theorem dX5_load_56 : decode cX5_load 56 = .ok (.ldc2_w 82, 3) := by decide +kernel
theorem dX5_load_59 : decode cX5_load 59 = .ok (.lreturn, 1) := by decide +kernel
theorem dX5_load_60 : decode cX5_load 60 = .ok (.aload_n 0, 1) := by decide +kernel
theorem dX5_load_61 : decode cX5_load 61 = .ok (.getfield 27, 3) := by decide +kernel
theorem dX5_load_64 : decode cX5_load 64 = .ok (.getfield 84, 3) := by decide +kernel
theorem dX5_load_67 : decode cX5_load 67 = .ok (.iload_n 1, 1) := by decide +kernel
theorem dX5_load_68 : decode cX5_load 68 = .ok (.laload, 1) := by decide +kernel
theorem dX5_load_69 : decode cX5_load 69 = .ok (.aload_n 0, 1) := by decide +kernel
theorem dX5_load_70 : decode cX5_load 70 = .ok (.getfield 27, 3) := by decide +kernel
theorem dX5_load_73 : decode cX5_load 73 = .ok (.getfield 88, 3) := by decide +kernel
theorem dX5_load_76 : decode cX5_load 76 = .ok (.iload_n 2, 1) := by decide +kernel
theorem dX5_load_77 : decode cX5_load 77 = .ok (.invokestatic 92, 3) := by decide +kernel
theorem dX5_load_80 : decode cX5_load 80 = .ok (.lreturn, 1) := by decide +kernel
theorem dX5_product_0 : decode cX5_product 0 = .ok (.iload_n 1, 1) := by decide +kernel
theorem dX5_product_1 : decode cX5_product 1 = .ok (.invokestatic 31, 3) := by decide +kernel
theorem dX5_product_4 : decode cX5_product 4 = .ok (.ifCond .ne 7, 3) := by decide +kernel
theorem dX5_product_7 : decode cX5_product 7 = .ok (.ldc2_w 67, 3) := by decide +kernel
theorem dX5_product_10 : decode cX5_product 10 = .ok (.lreturn, 1) := by decide +kernel
theorem dX5_product_11 : decode cX5_product 11 = .ok (.iload_n 2, 1) := by decide +kernel
theorem dX5_product_12 : decode cX5_product 12 = .ok (.invokestatic 69, 3) := by decide +kernel
theorem dX5_product_15 : decode cX5_product 15 = .ok (.ifCond .ne 7, 3) := by decide +kernel
theorem dX5_product_18 : decode cX5_product 18 = .ok (.ldc2_w 72, 3) := by decide +kernel
theorem dX5_product_21 : decode cX5_product 21 = .ok (.lreturn, 1) := by decide +kernel
theorem dX5_product_22 : decode cX5_product 22 = .ok (.aload_n 0, 1) := by decide +kernel
theorem dX5_product_23 : decode cX5_product 23 = .ok (.getfield 10, 3) := by decide +kernel
theorem dX5_product_26 : decode cX5_product 26 = .ok (.getfield 39, 3) := by decide +kernel
theorem dX5_product_29 : decode cX5_product 29 = .ok (.astore_n 3, 1) := by decide +kernel
theorem dX5_product_30 : decode cX5_product 30 = .ok (.aload_n 0, 1) := by decide +kernel
theorem dX5_product_31 : decode cX5_product 31 = .ok (.getfield 27, 3) := by decide +kernel
theorem dX5_product_34 : decode cX5_product 34 = .ok (.aload_n 3, 1) := by decide +kernel
theorem dX5_product_35 : decode cX5_product 35 = .ok (.aload_n 3, 1) := by decide +kernel
theorem dX5_product_36 : decode cX5_product 36 = .ok (.getfield 53, 3) := by decide +kernel
theorem dX5_product_39 : decode cX5_product 39 = .ok (.invokevirtual 74, 3) := by decide +kernel
theorem dX5_product_42 : decode cX5_product 42 = .ok (.aload_n 0, 1) := by decide +kernel
theorem dX5_product_43 : decode cX5_product 43 = .ok (.getfield 27, 3) := by decide +kernel
theorem dX5_product_46 : decode cX5_product 46 = .ok (.getfield 78, 3) := by decide +kernel
theorem dX5_product_49 : decode cX5_product 49 = .ok (.ifCond .ne 7, 3) := by decide +kernel
theorem dX5_product_52 : decode cX5_product 52 = .ok (.ldc2_w 82, 3) := by decide +kernel
theorem dX5_product_55 : decode cX5_product 55 = .ok (.lreturn, 1) := by decide +kernel
theorem dX5_product_56 : decode cX5_product 56 = .ok (.aload_n 0, 1) := by decide +kernel
theorem dX5_product_57 : decode cX5_product 57 = .ok (.getfield 27, 3) := by decide +kernel
theorem dX5_product_60 : decode cX5_product 60 = .ok (.aload_n 3, 1) := by decide +kernel
theorem dX5_product_61 : decode cX5_product 61 = .ok (.iload_n 1, 1) := by decide +kernel
theorem dX5_product_62 : decode cX5_product 62 = .ok (.invokevirtual 96, 3) := by decide +kernel
theorem dX5_product_65 : decode cX5_product 65 = .ok (.aload_n 0, 1) := by decide +kernel
theorem dX5_product_66 : decode cX5_product 66 = .ok (.getfield 27, 3) := by decide +kernel
theorem dX5_product_69 : decode cX5_product 69 = .ok (.getfield 84, 3) := by decide +kernel
theorem dX5_product_72 : decode cX5_product 72 = .ok (.iload_n 1, 1) := by decide +kernel
theorem dX5_product_73 : decode cX5_product 73 = .ok (.laload, 1) := by decide +kernel
theorem dX5_product_74 : decode cX5_product 74 = .ok (.aload_n 3, 1) := by decide +kernel
theorem dX5_product_75 : decode cX5_product 75 = .ok (.getfield 49, 3) := by decide +kernel
theorem dX5_product_78 : decode cX5_product 78 = .ok (.iload_n 1, 1) := by decide +kernel
theorem dX5_product_79 : decode cX5_product 79 = .ok (.aaload, 1) := by decide +kernel
theorem dX5_product_80 : decode cX5_product 80 = .ok (.iload_n 1, 1) := by decide +kernel
theorem dX5_product_81 : decode cX5_product 81 = .ok (.iaload, 1) := by decide +kernel
theorem dX5_product_82 : decode cX5_product 82 = .ok (.i2l, 1) := by decide +kernel
theorem dX5_product_83 : decode cX5_product 83 = .ok (.lmul, 1) := by decide +kernel
theorem dX5_product_84 : decode cX5_product 84 = .ok (.ladd, 1) := by decide +kernel
theorem dX5_product_85 : decode cX5_product 85 = .ok (.lstore 4, 2) := by decide +kernel
theorem dX5_product_87 : decode cX5_product 87 = .ok (.bipush 10, 2) := by decide +kernel
theorem dX5_product_89 : decode cX5_product 89 = .ok (.aload_n 3, 1) := by decide +kernel
theorem dX5_product_90 : decode cX5_product 90 = .ok (.getfield 53, 3) := by decide +kernel
theorem dX5_product_93 : decode cX5_product 93 = .ok (.iload_n 1, 1) := by decide +kernel
theorem dX5_product_94 : decode cX5_product 94 = .ok (.iaload, 1) := by decide +kernel
theorem dX5_product_95 : decode cX5_product 95 = .ok (.isub, 1) := by decide +kernel
theorem dX5_product_96 : decode cX5_product 96 = .ok (.i2l, 1) := by decide +kernel
theorem dX5_product_97 : decode cX5_product 97 = .ok (.lstore 6, 2) := by decide +kernel
theorem dX5_product_99 : decode cX5_product 99 = .ok (.lload 4, 2) := by decide +kernel
theorem dX5_product_101 : decode cX5_product 101 = .ok (.lload 6, 2) := by decide +kernel
theorem dX5_product_103 : decode cX5_product 103 = .ok (.lmul, 1) := by decide +kernel
theorem dX5_product_104 : decode cX5_product 104 = .ok (.aload_n 0, 1) := by decide +kernel
theorem dX5_product_105 : decode cX5_product 105 = .ok (.getfield 27, 3) := by decide +kernel
theorem dX5_product_108 : decode cX5_product 108 = .ok (.getfield 88, 3) := by decide +kernel
theorem dX5_product_111 : decode cX5_product 111 = .ok (.ldc2_w 100, 3) := by decide +kernel
theorem dX5_product_114 : decode cX5_product 114 = .ok (.lmul, 1) := by decide +kernel
theorem dX5_product_115 : decode cX5_product 115 = .ok (.ldc2_w 100, 3) := by decide +kernel
theorem dX5_product_118 : decode cX5_product 118 = .ok (.lmul, 1) := by decide +kernel
theorem dX5_product_119 : decode cX5_product 119 = .ok (.iload_n 2, 1) := by decide +kernel
theorem dX5_product_120 : decode cX5_product 120 = .ok (.invokestatic 92, 3) := by decide +kernel
theorem dX5_product_123 : decode cX5_product 123 = .ok (.lreturn, 1) := by decide +kernel
theorem dX5_circulatingLoad_0 : decode cX5_circulatingLoad 0 = .ok (.iload_n 1, 1) := by decide +kernel
theorem dX5_circulatingLoad_1 : decode cX5_circulatingLoad 1 = .ok (.invokestatic 69, 3) := by decide +kernel
theorem dX5_circulatingLoad_4 : decode cX5_circulatingLoad 4 = .ok (.ifCond .ne 7, 3) := by decide +kernel
theorem dX5_circulatingLoad_7 : decode cX5_circulatingLoad 7 = .ok (.ldc2_w 72, 3) := by decide +kernel
theorem dX5_circulatingLoad_10 : decode cX5_circulatingLoad 10 = .ok (.lreturn, 1) := by decide +kernel
theorem dX5_circulatingLoad_11 : decode cX5_circulatingLoad 11 = .ok (.aload_n 0, 1) := by decide +kernel
theorem dX5_circulatingLoad_12 : decode cX5_circulatingLoad 12 = .ok (.getfield 27, 3) := by decide +kernel
theorem dX5_circulatingLoad_15 : decode cX5_circulatingLoad 15 = .ok (.aload_n 0, 1) := by decide +kernel
theorem dX5_circulatingLoad_16 : decode cX5_circulatingLoad 16 = .ok (.getfield 10, 3) := by decide +kernel
theorem dX5_circulatingLoad_19 : decode cX5_circulatingLoad 19 = .ok (.getfield 39, 3) := by decide +kernel
theorem dX5_circulatingLoad_22 : decode cX5_circulatingLoad 22 = .ok (.aload_n 0, 1) := by decide +kernel
theorem dX5_circulatingLoad_23 : decode cX5_circulatingLoad 23 = .ok (.getfield 10, 3) := by decide +kernel
theorem dX5_circulatingLoad_26 : decode cX5_circulatingLoad 26 = .ok (.getfield 39, 3) := by decide +kernel
theorem dX5_circulatingLoad_29 : decode cX5_circulatingLoad 29 = .ok (.getfield 53, 3) := by decide +kernel
theorem dX5_circulatingLoad_32 : decode cX5_circulatingLoad 32 = .ok (.invokevirtual 74, 3) := by decide +kernel
theorem dX5_circulatingLoad_35 : decode cX5_circulatingLoad 35 = .ok (.aload_n 0, 1) := by decide +kernel
theorem dX5_circulatingLoad_36 : decode cX5_circulatingLoad 36 = .ok (.getfield 27, 3) := by decide +kernel
theorem dX5_circulatingLoad_39 : decode cX5_circulatingLoad 39 = .ok (.getfield 78, 3) := by decide +kernel
theorem dX5_circulatingLoad_42 : decode cX5_circulatingLoad 42 = .ok (.ifCond .ne 7, 3) := by decide +kernel
theorem dX5_circulatingLoad_45 : decode cX5_circulatingLoad 45 = .ok (.ldc2_w 82, 3) := by decide +kernel
theorem dX5_circulatingLoad_48 : decode cX5_circulatingLoad 48 = .ok (.lreturn, 1) := by decide +kernel
theorem dX5_circulatingLoad_49 : decode cX5_circulatingLoad 49 = .ok (.aload_n 0, 1) := by decide +kernel
theorem dX5_circulatingLoad_50 : decode cX5_circulatingLoad 50 = .ok (.getfield 10, 3) := by decide +kernel
theorem dX5_circulatingLoad_53 : decode cX5_circulatingLoad 53 = .ok (.getfield 39, 3) := by decide +kernel
theorem dX5_circulatingLoad_56 : decode cX5_circulatingLoad 56 = .ok (.getfield 64, 3) := by decide +kernel
theorem dX5_circulatingLoad_59 : decode cX5_circulatingLoad 59 = .ok (.invokestatic 102, 3) := by decide +kernel
theorem dX5_circulatingLoad_62 : decode cX5_circulatingLoad 62 = .ok (.i2l, 1) := by decide +kernel
theorem dX5_circulatingLoad_63 : decode cX5_circulatingLoad 63 = .ok (.aload_n 0, 1) := by decide +kernel
theorem dX5_circulatingLoad_64 : decode cX5_circulatingLoad 64 = .ok (.getfield 27, 3) := by decide +kernel
theorem dX5_circulatingLoad_67 : decode cX5_circulatingLoad 67 = .ok (.getfield 88, 3) := by decide +kernel
theorem dX5_circulatingLoad_70 : decode cX5_circulatingLoad 70 = .ok (.lmul, 1) := by decide +kernel
theorem dX5_circulatingLoad_71 : decode cX5_circulatingLoad 71 = .ok (.lstore_n 2, 1) := by decide +kernel
theorem dX5_circulatingLoad_72 : decode cX5_circulatingLoad 72 = .ok (.lload_n 2, 1) := by decide +kernel
theorem dX5_circulatingLoad_73 : decode cX5_circulatingLoad 73 = .ok (.lconst 0, 1) := by decide +kernel
theorem dX5_circulatingLoad_74 : decode cX5_circulatingLoad 74 = .ok (.lcmp, 1) := by decide +kernel
theorem dX5_circulatingLoad_75 : decode cX5_circulatingLoad 75 = .ok (.ifCond .ne 7, 3) := by decide +kernel
theorem dX5_circulatingLoad_78 : decode cX5_circulatingLoad 78 = .ok (.ldc2_w 106, 3) := by decide +kernel
theorem dX5_circulatingLoad_81 : decode cX5_circulatingLoad 81 = .ok (.lreturn, 1) := by decide +kernel
theorem dX5_circulatingLoad_82 : decode cX5_circulatingLoad 82 = .ok (.aload_n 0, 1) := by decide +kernel
theorem dX5_circulatingLoad_83 : decode cX5_circulatingLoad 83 = .ok (.getfield 27, 3) := by decide +kernel
theorem dX5_circulatingLoad_86 : decode cX5_circulatingLoad 86 = .ok (.invokevirtual 108, 3) := by decide +kernel
theorem dX5_circulatingLoad_89 : decode cX5_circulatingLoad 89 = .ok (.lload_n 2, 1) := by decide +kernel
theorem dX5_circulatingLoad_90 : decode cX5_circulatingLoad 90 = .ok (.lsub, 1) := by decide +kernel
theorem dX5_circulatingLoad_91 : decode cX5_circulatingLoad 91 = .ok (.lload_n 2, 1) := by decide +kernel
theorem dX5_circulatingLoad_92 : decode cX5_circulatingLoad 92 = .ok (.iload_n 1, 1) := by decide +kernel
theorem dX5_circulatingLoad_93 : decode cX5_circulatingLoad 93 = .ok (.invokestatic 92, 3) := by decide +kernel
theorem dX5_circulatingLoad_96 : decode cX5_circulatingLoad 96 = .ok (.lreturn, 1) := by decide +kernel
theorem dX5_power_0 : decode cX5_power 0 = .ok (.iload_n 1, 1) := by decide +kernel
theorem dX5_power_1 : decode cX5_power 1 = .ok (.invokestatic 69, 3) := by decide +kernel
theorem dX5_power_4 : decode cX5_power 4 = .ok (.ifCond .ne 7, 3) := by decide +kernel
theorem dX5_power_7 : decode cX5_power 7 = .ok (.ldc2_w 72, 3) := by decide +kernel
theorem dX5_power_10 : decode cX5_power 10 = .ok (.lreturn, 1) := by decide +kernel
theorem dX5_power_11 : decode cX5_power 11 = .ok (.aload_n 0, 1) := by decide +kernel
theorem dX5_power_12 : decode cX5_power 12 = .ok (.getfield 27, 3) := by decide +kernel
theorem dX5_power_15 : decode cX5_power 15 = .ok (.aload_n 0, 1) := by decide +kernel
theorem dX5_power_16 : decode cX5_power 16 = .ok (.getfield 10, 3) := by decide +kernel
theorem dX5_power_19 : decode cX5_power 19 = .ok (.getfield 39, 3) := by decide +kernel
theorem dX5_power_22 : decode cX5_power 22 = .ok (.aload_n 0, 1) := by decide +kernel
theorem dX5_power_23 : decode cX5_power 23 = .ok (.getfield 10, 3) := by decide +kernel
theorem dX5_power_26 : decode cX5_power 26 = .ok (.getfield 39, 3) := by decide +kernel
theorem dX5_power_29 : decode cX5_power 29 = .ok (.getfield 53, 3) := by decide +kernel
theorem dX5_power_32 : decode cX5_power 32 = .ok (.invokevirtual 74, 3) := by decide +kernel
theorem dX5_power_35 : decode cX5_power 35 = .ok (.aload_n 0, 1) := by decide +kernel
theorem dX5_power_36 : decode cX5_power 36 = .ok (.getfield 27, 3) := by decide +kernel
theorem dX5_power_39 : decode cX5_power 39 = .ok (.getfield 78, 3) := by decide +kernel
theorem dX5_power_42 : decode cX5_power 42 = .ok (.ifCond .ne 7, 3) := by decide +kernel
theorem dX5_power_45 : decode cX5_power 45 = .ok (.ldc2_w 82, 3) := by decide +kernel
theorem dX5_power_48 : decode cX5_power 48 = .ok (.lreturn, 1) := by decide +kernel
theorem dX5_power_49 : decode cX5_power 49 = .ok (.aload_n 0, 1) := by decide +kernel
theorem dX5_power_50 : decode cX5_power 50 = .ok (.getfield 27, 3) := by decide +kernel
theorem dX5_power_53 : decode cX5_power 53 = .ok (.aload_n 0, 1) := by decide +kernel
theorem dX5_power_54 : decode cX5_power 54 = .ok (.getfield 10, 3) := by decide +kernel
theorem dX5_power_57 : decode cX5_power 57 = .ok (.getfield 39, 3) := by decide +kernel
theorem dX5_power_60 : decode cX5_power 60 = .ok (.getfield 61, 3) := by decide +kernel
theorem dX5_power_63 : decode cX5_power 63 = .ok (.invokevirtual 112, 3) := by decide +kernel
theorem dX5_power_66 : decode cX5_power 66 = .ok (.aload_n 0, 1) := by decide +kernel
theorem dX5_power_67 : decode cX5_power 67 = .ok (.getfield 27, 3) := by decide +kernel
theorem dX5_power_70 : decode cX5_power 70 = .ok (.getfield 88, 3) := by decide +kernel
theorem dX5_power_73 : decode cX5_power 73 = .ok (.iload_n 1, 1) := by decide +kernel
theorem dX5_power_74 : decode cX5_power 74 = .ok (.invokestatic 92, 3) := by decide +kernel
theorem dX5_power_77 : decode cX5_power 77 = .ok (.lreturn, 1) := by decide +kernel
theorem dX5_cutPower_0 : decode cX5_cutPower 0 = .ok (.iload_n 1, 1) := by decide +kernel
theorem dX5_cutPower_1 : decode cX5_cutPower 1 = .ok (.iconst 0, 1) := by decide +kernel
theorem dX5_cutPower_2 : decode cX5_cutPower 2 = .ok (.iconst 4, 1) := by decide +kernel
theorem dX5_cutPower_3 : decode cX5_cutPower 3 = .ok (.invokestatic 116, 3) := by decide +kernel
theorem dX5_cutPower_6 : decode cX5_cutPower 6 = .ok (.ifCond .eq 10, 3) := by decide +kernel
theorem dX5_cutPower_9 : decode cX5_cutPower 9 = .ok (.iload_n 2, 1) := by decide +kernel
theorem dX5_cutPower_10 : decode cX5_cutPower 10 = .ok (.invokestatic 69, 3) := by decide +kernel
theorem dX5_cutPower_13 : decode cX5_cutPower 13 = .ok (.ifCond .ne 7, 3) := by decide +kernel
theorem dX5_cutPower_16 : decode cX5_cutPower 16 = .ok (.ldc2_w 72, 3) := by decide +kernel
theorem dX5_cutPower_19 : decode cX5_cutPower 19 = .ok (.lreturn, 1) := by decide +kernel
theorem dX5_cutPower_20 : decode cX5_cutPower 20 = .ok (.aload_n 0, 1) := by decide +kernel
theorem dX5_cutPower_21 : decode cX5_cutPower 21 = .ok (.getfield 27, 3) := by decide +kernel
theorem dX5_cutPower_24 : decode cX5_cutPower 24 = .ok (.aload_n 0, 1) := by decide +kernel
theorem dX5_cutPower_25 : decode cX5_cutPower 25 = .ok (.getfield 10, 3) := by decide +kernel
theorem dX5_cutPower_28 : decode cX5_cutPower 28 = .ok (.getfield 39, 3) := by decide +kernel
theorem dX5_cutPower_31 : decode cX5_cutPower 31 = .ok (.iload_n 1, 1) := by decide +kernel
theorem dX5_cutPower_32 : decode cX5_cutPower 32 = .ok (.invokevirtual 120, 3) := by decide +kernel
theorem dX5_cutPower_35 : decode cX5_cutPower 35 = .ok (.aload_n 0, 1) := by decide +kernel
theorem dX5_cutPower_36 : decode cX5_cutPower 36 = .ok (.getfield 27, 3) := by decide +kernel
theorem dX5_cutPower_39 : decode cX5_cutPower 39 = .ok (.getfield 78, 3) := by decide +kernel
theorem dX5_cutPower_42 : decode cX5_cutPower 42 = .ok (.ifCond .ne 7, 3) := by decide +kernel
theorem dX5_cutPower_45 : decode cX5_cutPower 45 = .ok (.ldc2_w 82, 3) := by decide +kernel
theorem dX5_cutPower_48 : decode cX5_cutPower 48 = .ok (.lreturn, 1) := by decide +kernel
theorem dX5_cutPower_49 : decode cX5_cutPower 49 = .ok (.aload_n 0, 1) := by decide +kernel
theorem dX5_cutPower_50 : decode cX5_cutPower 50 = .ok (.getfield 27, 3) := by decide +kernel
theorem dX5_cutPower_53 : decode cX5_cutPower 53 = .ok (.aload_n 0, 1) := by decide +kernel
theorem dX5_cutPower_54 : decode cX5_cutPower 54 = .ok (.getfield 10, 3) := by decide +kernel
theorem dX5_cutPower_57 : decode cX5_cutPower 57 = .ok (.getfield 39, 3) := by decide +kernel
theorem dX5_cutPower_60 : decode cX5_cutPower 60 = .ok (.getfield 61, 3) := by decide +kernel
theorem dX5_cutPower_63 : decode cX5_cutPower 63 = .ok (.invokevirtual 112, 3) := by decide +kernel
theorem dX5_cutPower_66 : decode cX5_cutPower 66 = .ok (.aload_n 0, 1) := by decide +kernel
theorem dX5_cutPower_67 : decode cX5_cutPower 67 = .ok (.getfield 27, 3) := by decide +kernel
theorem dX5_cutPower_70 : decode cX5_cutPower 70 = .ok (.getfield 88, 3) := by decide +kernel
theorem dX5_cutPower_73 : decode cX5_cutPower 73 = .ok (.iload_n 2, 1) := by decide +kernel
theorem dX5_cutPower_74 : decode cX5_cutPower 74 = .ok (.invokestatic 92, 3) := by decide +kernel
theorem dX5_cutPower_77 : decode cX5_cutPower 77 = .ok (.lreturn, 1) := by decide +kernel
theorem dX5_finestCut_0 : decode cX5_finestCut 0 = .ok (.iload_n 1, 1) := by decide +kernel
theorem dX5_finestCut_1 : decode cX5_finestCut 1 = .ok (.iconst 0, 1) := by decide +kernel
theorem dX5_finestCut_2 : decode cX5_finestCut 2 = .ok (.ldc 124, 2) := by decide +kernel
theorem dX5_finestCut_4 : decode cX5_finestCut 4 = .ok (.invokestatic 116, 3) := by decide +kernel
theorem dX5_finestCut_7 : decode cX5_finestCut 7 = .ok (.ifCond .ne 6, 3) := by decide +kernel
theorem dX5_finestCut_10 : decode cX5_finestCut 10 = .ok (.bipush (-3), 2) := by decide +kernel
theorem dX5_finestCut_12 : decode cX5_finestCut 12 = .ok (.ireturn, 1) := by decide +kernel
theorem dX5_finestCut_13 : decode cX5_finestCut 13 = .ok (.iconst 4, 1) := by decide +kernel
theorem dX5_finestCut_14 : decode cX5_finestCut 14 = .ok (.istore_n 2, 1) := by decide +kernel
theorem dX5_finestCut_15 : decode cX5_finestCut 15 = .ok (.iload_n 2, 1) := by decide +kernel
theorem dX5_finestCut_16 : decode cX5_finestCut 16 = .ok (.ifCond .lt 67, 3) := by decide +kernel
theorem dX5_finestCut_19 : decode cX5_finestCut 19 = .ok (.aload_n 0, 1) := by decide +kernel
theorem dX5_finestCut_20 : decode cX5_finestCut 20 = .ok (.getfield 27, 3) := by decide +kernel
theorem dX5_finestCut_23 : decode cX5_finestCut 23 = .ok (.aload_n 0, 1) := by decide +kernel
theorem dX5_finestCut_24 : decode cX5_finestCut 24 = .ok (.getfield 10, 3) := by decide +kernel
theorem dX5_finestCut_27 : decode cX5_finestCut 27 = .ok (.getfield 39, 3) := by decide +kernel
theorem dX5_finestCut_30 : decode cX5_finestCut 30 = .ok (.iload_n 2, 1) := by decide +kernel
theorem dX5_finestCut_31 : decode cX5_finestCut 31 = .ok (.invokevirtual 120, 3) := by decide +kernel
theorem dX5_finestCut_34 : decode cX5_finestCut 34 = .ok (.aload_n 0, 1) := by decide +kernel
theorem dX5_finestCut_35 : decode cX5_finestCut 35 = .ok (.getfield 27, 3) := by decide +kernel
theorem dX5_finestCut_38 : decode cX5_finestCut 38 = .ok (.getfield 78, 3) := by decide +kernel
theorem dX5_finestCut_41 : decode cX5_finestCut 41 = .ok (.ifCond .eq 36, 3) := by decide +kernel
theorem dX5_finestCut_44 : decode cX5_finestCut 44 = .ok (.aload_n 0, 1) := by decide +kernel
theorem dX5_finestCut_45 : decode cX5_finestCut 45 = .ok (.getfield 27, 3) := by decide +kernel
theorem dX5_finestCut_48 : decode cX5_finestCut 48 = .ok (.aload_n 0, 1) := by decide +kernel
theorem dX5_finestCut_49 : decode cX5_finestCut 49 = .ok (.getfield 10, 3) := by decide +kernel
theorem dX5_finestCut_52 : decode cX5_finestCut 52 = .ok (.getfield 39, 3) := by decide +kernel
theorem dX5_finestCut_55 : decode cX5_finestCut 55 = .ok (.getfield 61, 3) := by decide +kernel
theorem dX5_finestCut_58 : decode cX5_finestCut 58 = .ok (.invokevirtual 112, 3) := by decide +kernel
theorem dX5_finestCut_61 : decode cX5_finestCut 61 = .ok (.iload_n 1, 1) := by decide +kernel
theorem dX5_finestCut_62 : decode cX5_finestCut 62 = .ok (.i2l, 1) := by decide +kernel
theorem dX5_finestCut_63 : decode cX5_finestCut 63 = .ok (.aload_n 0, 1) := by decide +kernel
theorem dX5_finestCut_64 : decode cX5_finestCut 64 = .ok (.getfield 27, 3) := by decide +kernel
theorem dX5_finestCut_67 : decode cX5_finestCut 67 = .ok (.getfield 88, 3) := by decide +kernel
theorem dX5_finestCut_70 : decode cX5_finestCut 70 = .ok (.lmul, 1) := by decide +kernel
theorem dX5_finestCut_71 : decode cX5_finestCut 71 = .ok (.lcmp, 1) := by decide +kernel
theorem dX5_finestCut_72 : decode cX5_finestCut 72 = .ok (.ifCond .gt 5, 3) := by decide +kernel
theorem dX5_finestCut_75 : decode cX5_finestCut 75 = .ok (.iload_n 2, 1) := by decide +kernel
theorem dX5_finestCut_76 : decode cX5_finestCut 76 = .ok (.ireturn, 1) := by decide +kernel
theorem dX5_finestCut_77 : decode cX5_finestCut 77 = .ok (.iinc 2 (-1), 3) := by decide +kernel
theorem dX5_finestCut_80 : decode cX5_finestCut 80 = .ok (.goto (-65), 3) := by decide +kernel
theorem dX5_finestCut_83 : decode cX5_finestCut 83 = .ok (.bipush (-7), 2) := by decide +kernel
theorem dX5_finestCut_85 : decode cX5_finestCut 85 = .ok (.ireturn, 1) := by decide +kernel
theorem dX5_addLot_0 : decode cX5_addLot 0 = .ok (.iload_n 1, 1) := by decide +kernel
theorem dX5_addLot_1 : decode cX5_addLot 1 = .ok (.iload_n 2, 1) := by decide +kernel
theorem dX5_addLot_2 : decode cX5_addLot 2 = .ok (.iload_n 3, 1) := by decide +kernel
theorem dX5_addLot_3 : decode cX5_addLot 3 = .ok (.iload 4, 2) := by decide +kernel
theorem dX5_addLot_5 : decode cX5_addLot 5 = .ok (.invokestatic 125, 3) := by decide +kernel
theorem dX5_addLot_8 : decode cX5_addLot 8 = .ok (.ifCond .ne 6, 3) := by decide +kernel
theorem dX5_addLot_11 : decode cX5_addLot 11 = .ok (.bipush (-3), 2) := by decide +kernel
theorem dX5_addLot_13 : decode cX5_addLot 13 = .ok (.ireturn, 1) := by decide +kernel
theorem dX5_addLot_14 : decode cX5_addLot 14 = .ok (.aload_n 0, 1) := by decide +kernel
theorem dX5_addLot_15 : decode cX5_addLot 15 = .ok (.getfield 10, 3) := by decide +kernel
theorem dX5_addLot_18 : decode cX5_addLot 18 = .ok (.getfield 129, 3) := by decide +kernel
theorem dX5_addLot_21 : decode cX5_addLot 21 = .ok (.astore 5, 2) := by decide +kernel
theorem dX5_addLot_23 : decode cX5_addLot 23 = .ok (.aload 5, 2) := by decide +kernel
theorem dX5_addLot_25 : decode cX5_addLot 25 = .ok (.invokevirtual 133, 3) := by decide +kernel
theorem dX5_addLot_28 : decode cX5_addLot 28 = .ok (.ifCond .eq 6, 3) := by decide +kernel
theorem dX5_addLot_31 : decode cX5_addLot 31 = .ok (.bipush (-4), 2) := by decide +kernel
theorem dX5_addLot_33 : decode cX5_addLot 33 = .ok (.ireturn, 1) := by decide +kernel
theorem dX5_addLot_34 : decode cX5_addLot 34 = .ok (.aload 5, 2) := by decide +kernel
theorem dX5_addLot_36 : decode cX5_addLot 36 = .ok (.iload_n 1, 1) := by decide +kernel
theorem dX5_addLot_37 : decode cX5_addLot 37 = .ok (.iload_n 2, 1) := by decide +kernel
theorem dX5_addLot_38 : decode cX5_addLot 38 = .ok (.iload_n 3, 1) := by decide +kernel
theorem dX5_addLot_39 : decode cX5_addLot 39 = .ok (.iload 4, 2) := by decide +kernel
theorem dX5_addLot_41 : decode cX5_addLot 41 = .ok (.invokevirtual 139, 3) := by decide +kernel
theorem dX5_addLot_44 : decode cX5_addLot 44 = .ok (.istore 6, 2) := by decide +kernel
theorem dX5_addLot_46 : decode cX5_addLot 46 = .ok (.aload 5, 2) := by decide +kernel
theorem dX5_addLot_48 : decode cX5_addLot 48 = .ok (.aload 5, 2) := by decide +kernel
theorem dX5_addLot_50 : decode cX5_addLot 50 = .ok (.getfield 143, 3) := by decide +kernel
theorem dX5_addLot_53 : decode cX5_addLot 53 = .ok (.iload 6, 2) := by decide +kernel
theorem dX5_addLot_55 : decode cX5_addLot 55 = .ok (.aaload, 1) := by decide +kernel
theorem dX5_addLot_56 : decode cX5_addLot 56 = .ok (.invokevirtual 147, 3) := by decide +kernel
theorem dX5_addLot_59 : decode cX5_addLot 59 = .ok (.aload 5, 2) := by decide +kernel
theorem dX5_addLot_61 : decode cX5_addLot 61 = .ok (.aload_n 0, 1) := by decide +kernel
theorem dX5_addLot_62 : decode cX5_addLot 62 = .ok (.getfield 10, 3) := by decide +kernel
theorem dX5_addLot_65 : decode cX5_addLot 65 = .ok (.getfield 39, 3) := by decide +kernel
theorem dX5_addLot_68 : decode cX5_addLot 68 = .ok (.invokevirtual 151, 3) := by decide +kernel
theorem dX5_addLot_71 : decode cX5_addLot 71 = .ok (.iload 6, 2) := by decide +kernel
theorem dX5_addLot_73 : decode cX5_addLot 73 = .ok (.ireturn, 1) := by decide +kernel
theorem dX5_planLot_0 : decode cX5_planLot 0 = .ok (.iload_n 1, 1) := by decide +kernel
theorem dX5_planLot_1 : decode cX5_planLot 1 = .ok (.iconst 1, 1) := by decide +kernel
theorem dX5_planLot_2 : decode cX5_planLot 2 = .ok (.sipush 1000, 3) := by decide +kernel
theorem dX5_planLot_5 : decode cX5_planLot 5 = .ok (.invokestatic 116, 3) := by decide +kernel
theorem dX5_planLot_8 : decode cX5_planLot 8 = .ok (.ifCond .eq 15, 3) := by decide +kernel
theorem dX5_planLot_11 : decode cX5_planLot 11 = .ok (.iload_n 2, 1) := by decide +kernel
theorem dX5_planLot_12 : decode cX5_planLot 12 = .ok (.iload_n 3, 1) := by decide +kernel
theorem dX5_planLot_13 : decode cX5_planLot 13 = .ok (.iload 4, 2) := by decide +kernel
theorem dX5_planLot_15 : decode cX5_planLot 15 = .ok (.iload 5, 2) := by decide +kernel
theorem dX5_planLot_17 : decode cX5_planLot 17 = .ok (.invokestatic 125, 3) := by decide +kernel
theorem dX5_planLot_20 : decode cX5_planLot 20 = .ok (.ifCond .ne 6, 3) := by decide +kernel
theorem dX5_planLot_23 : decode cX5_planLot 23 = .ok (.bipush (-3), 2) := by decide +kernel
theorem dX5_planLot_25 : decode cX5_planLot 25 = .ok (.ireturn, 1) := by decide +kernel
theorem dX5_planLot_26 : decode cX5_planLot 26 = .ok (.aload_n 0, 1) := by decide +kernel
theorem dX5_planLot_27 : decode cX5_planLot 27 = .ok (.getfield 10, 3) := by decide +kernel
theorem dX5_planLot_30 : decode cX5_planLot 30 = .ok (.getfield 129, 3) := by decide +kernel
theorem dX5_planLot_33 : decode cX5_planLot 33 = .ok (.astore 6, 2) := by decide +kernel
theorem dX5_planLot_35 : decode cX5_planLot 35 = .ok (.aload 6, 2) := by decide +kernel
theorem dX5_planLot_37 : decode cX5_planLot 37 = .ok (.invokevirtual 133, 3) := by decide +kernel
theorem dX5_planLot_40 : decode cX5_planLot 40 = .ok (.ifCond .eq 6, 3) := by decide +kernel
theorem dX5_planLot_43 : decode cX5_planLot 43 = .ok (.bipush (-4), 2) := by decide +kernel
theorem dX5_planLot_45 : decode cX5_planLot 45 = .ok (.ireturn, 1) := by decide +kernel
theorem dX5_planLot_46 : decode cX5_planLot 46 = .ok (.aload 6, 2) := by decide +kernel
theorem dX5_planLot_48 : decode cX5_planLot 48 = .ok (.iload_n 2, 1) := by decide +kernel
theorem dX5_planLot_49 : decode cX5_planLot 49 = .ok (.iload_n 3, 1) := by decide +kernel
theorem dX5_planLot_50 : decode cX5_planLot 50 = .ok (.iload 4, 2) := by decide +kernel
theorem dX5_planLot_52 : decode cX5_planLot 52 = .ok (.iload 5, 2) := by decide +kernel
theorem dX5_planLot_54 : decode cX5_planLot 54 = .ok (.invokevirtual 139, 3) := by decide +kernel
theorem dX5_planLot_57 : decode cX5_planLot 57 = .ok (.istore 7, 2) := by decide +kernel
theorem dX5_planLot_59 : decode cX5_planLot 59 = .ok (.aload 6, 2) := by decide +kernel
theorem dX5_planLot_61 : decode cX5_planLot 61 = .ok (.aload 6, 2) := by decide +kernel
theorem dX5_planLot_63 : decode cX5_planLot 63 = .ok (.getfield 143, 3) := by decide +kernel
theorem dX5_planLot_66 : decode cX5_planLot 66 = .ok (.iload 7, 2) := by decide +kernel
theorem dX5_planLot_68 : decode cX5_planLot 68 = .ok (.aaload, 1) := by decide +kernel
theorem dX5_planLot_69 : decode cX5_planLot 69 = .ok (.iload_n 1, 1) := by decide +kernel
theorem dX5_planLot_70 : decode cX5_planLot 70 = .ok (.invokevirtual 155, 3) := by decide +kernel
theorem dX5_planLot_73 : decode cX5_planLot 73 = .ok (.iload 7, 2) := by decide +kernel
theorem dX5_planLot_75 : decode cX5_planLot 75 = .ok (.ireturn, 1) := by decide +kernel
theorem dX5_advance_0 : decode cX5_advance 0 = .ok (.iload_n 1, 1) := by decide +kernel
theorem dX5_advance_1 : decode cX5_advance 1 = .ok (.iconst 1, 1) := by decide +kernel
theorem dX5_advance_2 : decode cX5_advance 2 = .ok (.sipush 500, 3) := by decide +kernel
theorem dX5_advance_5 : decode cX5_advance 5 = .ok (.invokestatic 116, 3) := by decide +kernel
theorem dX5_advance_8 : decode cX5_advance 8 = .ok (.ifCond .ne 6, 3) := by decide +kernel
theorem dX5_advance_11 : decode cX5_advance 11 = .ok (.bipush (-3), 2) := by decide +kernel
theorem dX5_advance_13 : decode cX5_advance 13 = .ok (.ireturn, 1) := by decide +kernel
theorem dX5_advance_14 : decode cX5_advance 14 = .ok (.aload_n 0, 1) := by decide +kernel
theorem dX5_advance_15 : decode cX5_advance 15 = .ok (.getfield 10, 3) := by decide +kernel
theorem dX5_advance_18 : decode cX5_advance 18 = .ok (.getfield 129, 3) := by decide +kernel
theorem dX5_advance_21 : decode cX5_advance 21 = .ok (.iload_n 1, 1) := by decide +kernel
theorem dX5_advance_22 : decode cX5_advance 22 = .ok (.aload_n 0, 1) := by decide +kernel
theorem dX5_advance_23 : decode cX5_advance 23 = .ok (.getfield 10, 3) := by decide +kernel
theorem dX5_advance_26 : decode cX5_advance 26 = .ok (.getfield 39, 3) := by decide +kernel
theorem dX5_advance_29 : decode cX5_advance 29 = .ok (.invokevirtual 159, 3) := by decide +kernel
theorem dX5_advance_32 : decode cX5_advance 32 = .ok (.aload_n 0, 1) := by decide +kernel
theorem dX5_advance_33 : decode cX5_advance 33 = .ok (.getfield 10, 3) := by decide +kernel
theorem dX5_advance_36 : decode cX5_advance 36 = .ok (.getfield 129, 3) := by decide +kernel
theorem dX5_advance_39 : decode cX5_advance 39 = .ok (.getfield 163, 3) := by decide +kernel
theorem dX5_advance_42 : decode cX5_advance 42 = .ok (.ireturn, 1) := by decide +kernel
theorem dX5_setRate_0 : decode cX5_setRate 0 = .ok (.iload_n 1, 1) := by decide +kernel
theorem dX5_setRate_1 : decode cX5_setRate 1 = .ok (.iconst 1, 1) := by decide +kernel
theorem dX5_setRate_2 : decode cX5_setRate 2 = .ok (.bipush 100, 2) := by decide +kernel
theorem dX5_setRate_4 : decode cX5_setRate 4 = .ok (.invokestatic 116, 3) := by decide +kernel
theorem dX5_setRate_7 : decode cX5_setRate 7 = .ok (.ifCond .ne 6, 3) := by decide +kernel
theorem dX5_setRate_10 : decode cX5_setRate 10 = .ok (.bipush (-3), 2) := by decide +kernel
theorem dX5_setRate_12 : decode cX5_setRate 12 = .ok (.ireturn, 1) := by decide +kernel
theorem dX5_setRate_13 : decode cX5_setRate 13 = .ok (.aload_n 0, 1) := by decide +kernel
theorem dX5_setRate_14 : decode cX5_setRate 14 = .ok (.getfield 10, 3) := by decide +kernel
theorem dX5_setRate_17 : decode cX5_setRate 17 = .ok (.getfield 39, 3) := by decide +kernel
theorem dX5_setRate_20 : decode cX5_setRate 20 = .ok (.getfield 167, 3) := by decide +kernel
theorem dX5_setRate_23 : decode cX5_setRate 23 = .ok (.istore_n 2, 1) := by decide +kernel
theorem dX5_setRate_24 : decode cX5_setRate 24 = .ok (.aload_n 0, 1) := by decide +kernel
theorem dX5_setRate_25 : decode cX5_setRate 25 = .ok (.getfield 10, 3) := by decide +kernel
theorem dX5_setRate_28 : decode cX5_setRate 28 = .ok (.getfield 39, 3) := by decide +kernel
theorem dX5_setRate_31 : decode cX5_setRate 31 = .ok (.iload_n 1, 1) := by decide +kernel
theorem dX5_setRate_32 : decode cX5_setRate 32 = .ok (.putfield 167, 3) := by decide +kernel
theorem dX5_setRate_35 : decode cX5_setRate 35 = .ok (.iload_n 2, 1) := by decide +kernel
theorem dX5_setRate_36 : decode cX5_setRate 36 = .ok (.ireturn, 1) := by decide +kernel
theorem dX5_setRule_0 : decode cX5_setRule 0 = .ok (.iload_n 1, 1) := by decide +kernel
theorem dX5_setRule_1 : decode cX5_setRule 1 = .ok (.iconst 0, 1) := by decide +kernel
theorem dX5_setRule_2 : decode cX5_setRule 2 = .ok (.iconst 2, 1) := by decide +kernel
theorem dX5_setRule_3 : decode cX5_setRule 3 = .ok (.invokestatic 116, 3) := by decide +kernel
theorem dX5_setRule_6 : decode cX5_setRule 6 = .ok (.ifCond .ne 6, 3) := by decide +kernel
theorem dX5_setRule_9 : decode cX5_setRule 9 = .ok (.bipush (-3), 2) := by decide +kernel
theorem dX5_setRule_11 : decode cX5_setRule 11 = .ok (.ireturn, 1) := by decide +kernel
theorem dX5_setRule_12 : decode cX5_setRule 12 = .ok (.aload_n 0, 1) := by decide +kernel
theorem dX5_setRule_13 : decode cX5_setRule 13 = .ok (.getfield 10, 3) := by decide +kernel
theorem dX5_setRule_16 : decode cX5_setRule 16 = .ok (.getfield 39, 3) := by decide +kernel
theorem dX5_setRule_19 : decode cX5_setRule 19 = .ok (.getfield 170, 3) := by decide +kernel
theorem dX5_setRule_22 : decode cX5_setRule 22 = .ok (.istore_n 2, 1) := by decide +kernel
theorem dX5_setRule_23 : decode cX5_setRule 23 = .ok (.aload_n 0, 1) := by decide +kernel
theorem dX5_setRule_24 : decode cX5_setRule 24 = .ok (.getfield 10, 3) := by decide +kernel
theorem dX5_setRule_27 : decode cX5_setRule 27 = .ok (.getfield 39, 3) := by decide +kernel
theorem dX5_setRule_30 : decode cX5_setRule 30 = .ok (.iload_n 1, 1) := by decide +kernel
theorem dX5_setRule_31 : decode cX5_setRule 31 = .ok (.putfield 170, 3) := by decide +kernel
theorem dX5_setRule_34 : decode cX5_setRule 34 = .ok (.iload_n 2, 1) := by decide +kernel
theorem dX5_setRule_35 : decode cX5_setRule 35 = .ok (.ireturn, 1) := by decide +kernel
theorem dX5_bin_0 : decode cX5_bin 0 = .ok (.iload_n 1, 1) := by decide +kernel
theorem dX5_bin_1 : decode cX5_bin 1 = .ok (.iconst (-1), 1) := by decide +kernel
theorem dX5_bin_2 : decode cX5_bin 2 = .ok (.if_icmp .ne 14, 3) := by decide +kernel
theorem dX5_bin_5 : decode cX5_bin 5 = .ok (.aload_n 0, 1) := by decide +kernel
theorem dX5_bin_6 : decode cX5_bin 6 = .ok (.getfield 10, 3) := by decide +kernel
theorem dX5_bin_9 : decode cX5_bin 9 = .ok (.getfield 129, 3) := by decide +kernel
theorem dX5_bin_12 : decode cX5_bin 12 = .ok (.invokevirtual 173, 3) := by decide +kernel
theorem dX5_bin_15 : decode cX5_bin 15 = .ok (.ireturn, 1) := by decide +kernel
theorem dX5_bin_16 : decode cX5_bin 16 = .ok (.aload_n 0, 1) := by decide +kernel
theorem dX5_bin_17 : decode cX5_bin 17 = .ok (.getfield 10, 3) := by decide +kernel
theorem dX5_bin_20 : decode cX5_bin 20 = .ok (.getfield 129, 3) := by decide +kernel
theorem dX5_bin_23 : decode cX5_bin 23 = .ok (.iload_n 1, 1) := by decide +kernel
theorem dX5_bin_24 : decode cX5_bin 24 = .ok (.aload_n 0, 1) := by decide +kernel
theorem dX5_bin_25 : decode cX5_bin 25 = .ok (.getfield 10, 3) := by decide +kernel
theorem dX5_bin_28 : decode cX5_bin 28 = .ok (.getfield 39, 3) := by decide +kernel
theorem dX5_bin_31 : decode cX5_bin 31 = .ok (.getfield 170, 3) := by decide +kernel
theorem dX5_bin_34 : decode cX5_bin 34 = .ok (.invokevirtual 177, 3) := by decide +kernel
theorem dX5_bin_37 : decode cX5_bin 37 = .ok (.istore_n 2, 1) := by decide +kernel
theorem dX5_bin_38 : decode cX5_bin 38 = .ok (.iload_n 2, 1) := by decide +kernel
theorem dX5_bin_39 : decode cX5_bin 39 = .ok (.iconst (-1), 1) := by decide +kernel
theorem dX5_bin_40 : decode cX5_bin 40 = .ok (.if_icmp .ne 8, 3) := by decide +kernel
theorem dX5_bin_43 : decode cX5_bin 43 = .ok (.bipush (-7), 2) := by decide +kernel
theorem dX5_bin_45 : decode cX5_bin 45 = .ok (.goto 4, 3) := by decide +kernel
theorem dX5_bin_48 : decode cX5_bin 48 = .ok (.iload_n 2, 1) := by decide +kernel
theorem dX5_bin_49 : decode cX5_bin 49 = .ok (.ireturn, 1) := by decide +kernel
theorem dX5_mill_0 : decode cX5_mill 0 = .ok (.iload_n 1, 1) := by decide +kernel
theorem dX5_mill_1 : decode cX5_mill 1 = .ok (.invokestatic 69, 3) := by decide +kernel
theorem dX5_mill_4 : decode cX5_mill 4 = .ok (.ifCond .ne 6, 3) := by decide +kernel
theorem dX5_mill_7 : decode cX5_mill 7 = .ok (.bipush (-3), 2) := by decide +kernel
theorem dX5_mill_9 : decode cX5_mill 9 = .ok (.ireturn, 1) := by decide +kernel
theorem dX5_mill_10 : decode cX5_mill 10 = .ok (.aload_n 0, 1) := by decide +kernel
theorem dX5_mill_11 : decode cX5_mill 11 = .ok (.getfield 10, 3) := by decide +kernel
theorem dX5_mill_14 : decode cX5_mill 14 = .ok (.getfield 129, 3) := by decide +kernel
theorem dX5_mill_17 : decode cX5_mill 17 = .ok (.astore_n 2, 1) := by decide +kernel
theorem dX5_mill_18 : decode cX5_mill 18 = .ok (.aload_n 2, 1) := by decide +kernel
theorem dX5_mill_19 : decode cX5_mill 19 = .ok (.invokevirtual 181, 3) := by decide +kernel
theorem dX5_mill_22 : decode cX5_mill 22 = .ok (.ifCond .eq 6, 3) := by decide +kernel
theorem dX5_mill_25 : decode cX5_mill 25 = .ok (.bipush (-7), 2) := by decide +kernel
theorem dX5_mill_27 : decode cX5_mill 27 = .ok (.ireturn, 1) := by decide +kernel
theorem dX5_mill_28 : decode cX5_mill 28 = .ok (.iload_n 1, 1) := by decide +kernel
theorem dX5_mill_29 : decode cX5_mill 29 = .ok (.ifCond .ne 10, 3) := by decide +kernel
theorem dX5_mill_32 : decode cX5_mill 32 = .ok (.aload_n 2, 1) := by decide +kernel
theorem dX5_mill_33 : decode cX5_mill 33 = .ok (.getfield 184, 3) := by decide +kernel
theorem dX5_mill_36 : decode cX5_mill 36 = .ok (.goto 12, 3) := by decide +kernel
theorem dX5_mill_39 : decode cX5_mill 39 = .ok (.aload_n 2, 1) := by decide +kernel
theorem dX5_mill_40 : decode cX5_mill 40 = .ok (.getfield 187, 3) := by decide +kernel
theorem dX5_mill_43 : decode cX5_mill 43 = .ok (.aload_n 2, 1) := by decide +kernel
theorem dX5_mill_44 : decode cX5_mill 44 = .ok (.getfield 163, 3) := by decide +kernel
theorem dX5_mill_47 : decode cX5_mill 47 = .ok (.isub, 1) := by decide +kernel
theorem dX5_mill_48 : decode cX5_mill 48 = .ok (.ireturn, 1) := by decide +kernel
theorem dX5_state_0 : decode cX5_state 0 = .ok (.aload_n 0, 1) := by decide +kernel
theorem dX5_state_1 : decode cX5_state 1 = .ok (.getfield 10, 3) := by decide +kernel
theorem dX5_state_4 : decode cX5_state 4 = .ok (.getfield 129, 3) := by decide +kernel
theorem dX5_state_7 : decode cX5_state 7 = .ok (.iload_n 1, 1) := by decide +kernel
theorem dX5_state_8 : decode cX5_state 8 = .ok (.invokevirtual 190, 3) := by decide +kernel
theorem dX5_state_11 : decode cX5_state 11 = .ok (.ifCond .ne 6, 3) := by decide +kernel
theorem dX5_state_14 : decode cX5_state 14 = .ok (.bipush (-2), 2) := by decide +kernel
theorem dX5_state_16 : decode cX5_state 16 = .ok (.ireturn, 1) := by decide +kernel
theorem dX5_state_17 : decode cX5_state 17 = .ok (.aload_n 0, 1) := by decide +kernel
theorem dX5_state_18 : decode cX5_state 18 = .ok (.getfield 10, 3) := by decide +kernel
theorem dX5_state_21 : decode cX5_state 21 = .ok (.getfield 129, 3) := by decide +kernel
theorem dX5_state_24 : decode cX5_state 24 = .ok (.getfield 143, 3) := by decide +kernel
theorem dX5_state_27 : decode cX5_state 27 = .ok (.iload_n 1, 1) := by decide +kernel
theorem dX5_state_28 : decode cX5_state 28 = .ok (.aaload, 1) := by decide +kernel
theorem dX5_state_29 : decode cX5_state 29 = .ok (.getfield 193, 3) := by decide +kernel
theorem dX5_state_32 : decode cX5_state 32 = .ok (.ireturn, 1) := by decide +kernel
theorem dX5_mass_0 : decode cX5_mass 0 = .ok (.aload_n 0, 1) := by decide +kernel
theorem dX5_mass_1 : decode cX5_mass 1 = .ok (.getfield 10, 3) := by decide +kernel
theorem dX5_mass_4 : decode cX5_mass 4 = .ok (.getfield 129, 3) := by decide +kernel
theorem dX5_mass_7 : decode cX5_mass 7 = .ok (.iload_n 1, 1) := by decide +kernel
theorem dX5_mass_8 : decode cX5_mass 8 = .ok (.invokevirtual 190, 3) := by decide +kernel
theorem dX5_mass_11 : decode cX5_mass 11 = .ok (.ifCond .ne 6, 3) := by decide +kernel
theorem dX5_mass_14 : decode cX5_mass 14 = .ok (.bipush (-2), 2) := by decide +kernel
theorem dX5_mass_16 : decode cX5_mass 16 = .ok (.ireturn, 1) := by decide +kernel
theorem dX5_mass_17 : decode cX5_mass 17 = .ok (.aload_n 0, 1) := by decide +kernel
theorem dX5_mass_18 : decode cX5_mass 18 = .ok (.getfield 10, 3) := by decide +kernel
theorem dX5_mass_21 : decode cX5_mass 21 = .ok (.getfield 129, 3) := by decide +kernel
theorem dX5_mass_24 : decode cX5_mass 24 = .ok (.getfield 143, 3) := by decide +kernel
theorem dX5_mass_27 : decode cX5_mass 27 = .ok (.iload_n 1, 1) := by decide +kernel
theorem dX5_mass_28 : decode cX5_mass 28 = .ok (.aaload, 1) := by decide +kernel
theorem dX5_mass_29 : decode cX5_mass 29 = .ok (.getfield 198, 3) := by decide +kernel
theorem dX5_mass_32 : decode cX5_mass 32 = .ok (.iload_n 2, 1) := by decide +kernel
theorem dX5_mass_33 : decode cX5_mass 33 = .ok (.invokestatic 201, 3) := by decide +kernel
theorem dX5_mass_36 : decode cX5_mass 36 = .ok (.ireturn, 1) := by decide +kernel
theorem dX5_passes_0 : decode cX5_passes 0 = .ok (.aload_n 0, 1) := by decide +kernel
theorem dX5_passes_1 : decode cX5_passes 1 = .ok (.getfield 10, 3) := by decide +kernel
theorem dX5_passes_4 : decode cX5_passes 4 = .ok (.getfield 129, 3) := by decide +kernel
theorem dX5_passes_7 : decode cX5_passes 7 = .ok (.iload_n 1, 1) := by decide +kernel
theorem dX5_passes_8 : decode cX5_passes 8 = .ok (.invokevirtual 190, 3) := by decide +kernel
theorem dX5_passes_11 : decode cX5_passes 11 = .ok (.ifCond .ne 6, 3) := by decide +kernel
theorem dX5_passes_14 : decode cX5_passes 14 = .ok (.bipush (-2), 2) := by decide +kernel
theorem dX5_passes_16 : decode cX5_passes 16 = .ok (.ireturn, 1) := by decide +kernel
theorem dX5_passes_17 : decode cX5_passes 17 = .ok (.aload_n 0, 1) := by decide +kernel
theorem dX5_passes_18 : decode cX5_passes 18 = .ok (.getfield 10, 3) := by decide +kernel
theorem dX5_passes_21 : decode cX5_passes 21 = .ok (.getfield 129, 3) := by decide +kernel
theorem dX5_passes_24 : decode cX5_passes 24 = .ok (.getfield 143, 3) := by decide +kernel
theorem dX5_passes_27 : decode cX5_passes 27 = .ok (.iload_n 1, 1) := by decide +kernel
theorem dX5_passes_28 : decode cX5_passes 28 = .ok (.aaload, 1) := by decide +kernel
theorem dX5_passes_29 : decode cX5_passes 29 = .ok (.getfield 205, 3) := by decide +kernel
theorem dX5_passes_32 : decode cX5_passes 32 = .ok (.ireturn, 1) := by decide +kernel
theorem dX5_produced_0 : decode cX5_produced 0 = .ok (.aload_n 0, 1) := by decide +kernel
theorem dX5_produced_1 : decode cX5_produced 1 = .ok (.getfield 10, 3) := by decide +kernel
theorem dX5_produced_4 : decode cX5_produced 4 = .ok (.getfield 129, 3) := by decide +kernel
theorem dX5_produced_7 : decode cX5_produced 7 = .ok (.getfield 208, 3) := by decide +kernel
theorem dX5_produced_10 : decode cX5_produced 10 = .ok (.iload_n 1, 1) := by decide +kernel
theorem dX5_produced_11 : decode cX5_produced 11 = .ok (.invokestatic 201, 3) := by decide +kernel
theorem dX5_produced_14 : decode cX5_produced 14 = .ok (.ireturn, 1) := by decide +kernel
theorem dX5_total_0 : decode cX5_total 0 = .ok (.aload_n 0, 1) := by decide +kernel
theorem dX5_total_1 : decode cX5_total 1 = .ok (.getfield 10, 3) := by decide +kernel
theorem dX5_total_4 : decode cX5_total 4 = .ok (.getfield 129, 3) := by decide +kernel
theorem dX5_total_7 : decode cX5_total 7 = .ok (.astore_n 2, 1) := by decide +kernel
theorem dX5_total_8 : decode cX5_total 8 = .ok (.iload_n 1, 1) := by decide +kernel
theorem dX5_total_9 : decode cX5_total 9 = .ok (.tableswitch 51 0 3 #[31, 36, 41, 46], 31) := by decide +kernel
theorem dX5_total_40 : decode cX5_total 40 = .ok (.aload_n 2, 1) := by decide +kernel
theorem dX5_total_41 : decode cX5_total 41 = .ok (.getfield 163, 3) := by decide +kernel
theorem dX5_total_44 : decode cX5_total 44 = .ok (.ireturn, 1) := by decide +kernel
theorem dX5_total_45 : decode cX5_total 45 = .ok (.aload_n 2, 1) := by decide +kernel
theorem dX5_total_46 : decode cX5_total 46 = .ok (.getfield 211, 3) := by decide +kernel
theorem dX5_total_49 : decode cX5_total 49 = .ok (.ireturn, 1) := by decide +kernel
theorem dX5_total_50 : decode cX5_total 50 = .ok (.aload_n 2, 1) := by decide +kernel
theorem dX5_total_51 : decode cX5_total 51 = .ok (.getfield 214, 3) := by decide +kernel
theorem dX5_total_54 : decode cX5_total 54 = .ok (.ireturn, 1) := by decide +kernel
theorem dX5_total_55 : decode cX5_total 55 = .ok (.aload_n 2, 1) := by decide +kernel
theorem dX5_total_56 : decode cX5_total 56 = .ok (.getfield 217, 3) := by decide +kernel
theorem dX5_total_59 : decode cX5_total 59 = .ok (.ireturn, 1) := by decide +kernel
theorem dX5_total_60 : decode cX5_total 60 = .ok (.bipush (-3), 2) := by decide +kernel
theorem dX5_total_62 : decode cX5_total 62 = .ok (.ireturn, 1) := by decide +kernel
theorem dX5_save_0 : decode cX5_save 0 = .ok (.iload_n 1, 1) := by decide +kernel
theorem dX5_save_1 : decode cX5_save 1 = .ok (.invokestatic 220, 3) := by decide +kernel
theorem dX5_save_4 : decode cX5_save 4 = .ok (.ifCond .ne 6, 3) := by decide +kernel
theorem dX5_save_7 : decode cX5_save 7 = .ok (.bipush (-3), 2) := by decide +kernel
theorem dX5_save_9 : decode cX5_save 9 = .ok (.ireturn, 1) := by decide +kernel
theorem dX5_save_10 : decode cX5_save 10 = .ok (.aload_n 0, 1) := by decide +kernel
theorem dX5_save_11 : decode cX5_save 11 = .ok (.getfield 16, 3) := by decide +kernel
theorem dX5_save_14 : decode cX5_save 14 = .ok (.iload_n 1, 1) := by decide +kernel
theorem dX5_save_15 : decode cX5_save 15 = .ok (.aaload, 1) := by decide +kernel
theorem dX5_save_16 : decode cX5_save 16 = .ok (.aload_n 0, 1) := by decide +kernel
theorem dX5_save_17 : decode cX5_save 17 = .ok (.getfield 10, 3) := by decide +kernel
theorem dX5_save_20 : decode cX5_save 20 = .ok (.invokevirtual 223, 3) := by decide +kernel
theorem dX5_save_23 : decode cX5_save 23 = .ok (.aload_n 0, 1) := by decide +kernel
theorem dX5_save_24 : decode cX5_save 24 = .ok (.getfield 20, 3) := by decide +kernel
theorem dX5_save_27 : decode cX5_save 27 = .ok (.iload_n 1, 1) := by decide +kernel
theorem dX5_save_28 : decode cX5_save 28 = .ok (.iconst 1, 1) := by decide +kernel
theorem dX5_save_29 : decode cX5_save 29 = .ok (.bastore, 1) := by decide +kernel
theorem dX5_save_30 : decode cX5_save 30 = .ok (.aload_n 0, 1) := by decide +kernel
theorem dX5_save_31 : decode cX5_save 31 = .ok (.getfield 10, 3) := by decide +kernel
theorem dX5_save_34 : decode cX5_save 34 = .ok (.getfield 129, 3) := by decide +kernel
theorem dX5_save_37 : decode cX5_save 37 = .ok (.getfield 163, 3) := by decide +kernel
theorem dX5_save_40 : decode cX5_save 40 = .ok (.ireturn, 1) := by decide +kernel
theorem dX5_restore_0 : decode cX5_restore 0 = .ok (.iload_n 1, 1) := by decide +kernel
theorem dX5_restore_1 : decode cX5_restore 1 = .ok (.invokestatic 220, 3) := by decide +kernel
theorem dX5_restore_4 : decode cX5_restore 4 = .ok (.ifCond .ne 6, 3) := by decide +kernel
theorem dX5_restore_7 : decode cX5_restore 7 = .ok (.bipush (-3), 2) := by decide +kernel
theorem dX5_restore_9 : decode cX5_restore 9 = .ok (.ireturn, 1) := by decide +kernel
theorem dX5_restore_10 : decode cX5_restore 10 = .ok (.aload_n 0, 1) := by decide +kernel
theorem dX5_restore_11 : decode cX5_restore 11 = .ok (.getfield 20, 3) := by decide +kernel
theorem dX5_restore_14 : decode cX5_restore 14 = .ok (.iload_n 1, 1) := by decide +kernel
theorem dX5_restore_15 : decode cX5_restore 15 = .ok (.baload, 1) := by decide +kernel
theorem dX5_restore_16 : decode cX5_restore 16 = .ok (.ifCond .ne 6, 3) := by decide +kernel
theorem dX5_restore_19 : decode cX5_restore 19 = .ok (.bipush (-6), 2) := by decide +kernel
theorem dX5_restore_21 : decode cX5_restore 21 = .ok (.ireturn, 1) := by decide +kernel
theorem dX5_restore_22 : decode cX5_restore 22 = .ok (.aload_n 0, 1) := by decide +kernel
theorem dX5_restore_23 : decode cX5_restore 23 = .ok (.getfield 10, 3) := by decide +kernel
theorem dX5_restore_26 : decode cX5_restore 26 = .ok (.aload_n 0, 1) := by decide +kernel
theorem dX5_restore_27 : decode cX5_restore 27 = .ok (.getfield 16, 3) := by decide +kernel
theorem dX5_restore_30 : decode cX5_restore 30 = .ok (.iload_n 1, 1) := by decide +kernel
theorem dX5_restore_31 : decode cX5_restore 31 = .ok (.aaload, 1) := by decide +kernel
theorem dX5_restore_32 : decode cX5_restore 32 = .ok (.invokevirtual 223, 3) := by decide +kernel
theorem dX5_restore_35 : decode cX5_restore 35 = .ok (.aload_n 0, 1) := by decide +kernel
theorem dX5_restore_36 : decode cX5_restore 36 = .ok (.getfield 10, 3) := by decide +kernel
theorem dX5_restore_39 : decode cX5_restore 39 = .ok (.getfield 129, 3) := by decide +kernel
theorem dX5_restore_42 : decode cX5_restore 42 = .ok (.getfield 163, 3) := by decide +kernel
theorem dX5_restore_45 : decode cX5_restore 45 = .ok (.ireturn, 1) := by decide +kernel
theorem dX5_isWithin_0 : decode cX5_isWithin 0 = .ok (.iload_n 0, 1) := by decide +kernel
theorem dX5_isWithin_1 : decode cX5_isWithin 1 = .ok (.iload_n 1, 1) := by decide +kernel
theorem dX5_isWithin_2 : decode cX5_isWithin 2 = .ok (.if_icmp .lt 12, 3) := by decide +kernel
theorem dX5_isWithin_5 : decode cX5_isWithin 5 = .ok (.iload_n 0, 1) := by decide +kernel
theorem dX5_isWithin_6 : decode cX5_isWithin 6 = .ok (.iload_n 2, 1) := by decide +kernel
theorem dX5_isWithin_7 : decode cX5_isWithin 7 = .ok (.if_icmp .gt 7, 3) := by decide +kernel
theorem dX5_isWithin_10 : decode cX5_isWithin 10 = .ok (.iconst 1, 1) := by decide +kernel
theorem dX5_isWithin_11 : decode cX5_isWithin 11 = .ok (.goto 4, 3) := by decide +kernel
theorem dX5_isWithin_14 : decode cX5_isWithin 14 = .ok (.iconst 0, 1) := by decide +kernel
theorem dX5_isWithin_15 : decode cX5_isWithin 15 = .ok (.ireturn, 1) := by decide +kernel
theorem dX5_isSize_0 : decode cX5_isSize 0 = .ok (.iload_n 0, 1) := by decide +kernel
theorem dX5_isSize_1 : decode cX5_isSize 1 = .ok (.iconst 0, 1) := by decide +kernel
theorem dX5_isSize_2 : decode cX5_isSize 2 = .ok (.iconst 3, 1) := by decide +kernel
theorem dX5_isSize_3 : decode cX5_isSize 3 = .ok (.invokestatic 116, 3) := by decide +kernel
theorem dX5_isSize_6 : decode cX5_isSize 6 = .ok (.ireturn, 1) := by decide +kernel
theorem dX5_isZeroOrOne_0 : decode cX5_isZeroOrOne 0 = .ok (.iload_n 0, 1) := by decide +kernel
theorem dX5_isZeroOrOne_1 : decode cX5_isZeroOrOne 1 = .ok (.ifCond .eq 8, 3) := by decide +kernel
theorem dX5_isZeroOrOne_4 : decode cX5_isZeroOrOne 4 = .ok (.iload_n 0, 1) := by decide +kernel
theorem dX5_isZeroOrOne_5 : decode cX5_isZeroOrOne 5 = .ok (.iconst 1, 1) := by decide +kernel
theorem dX5_isZeroOrOne_6 : decode cX5_isZeroOrOne 6 = .ok (.if_icmp .ne 7, 3) := by decide +kernel
theorem dX5_isZeroOrOne_9 : decode cX5_isZeroOrOne 9 = .ok (.iconst 1, 1) := by decide +kernel
theorem dX5_isZeroOrOne_10 : decode cX5_isZeroOrOne 10 = .ok (.goto 4, 3) := by decide +kernel
theorem dX5_isZeroOrOne_13 : decode cX5_isZeroOrOne 13 = .ok (.iconst 0, 1) := by decide +kernel
theorem dX5_isZeroOrOne_14 : decode cX5_isZeroOrOne 14 = .ok (.ireturn, 1) := by decide +kernel
theorem dX5_isSlot_0 : decode cX5_isSlot 0 = .ok (.iload_n 0, 1) := by decide +kernel
theorem dX5_isSlot_1 : decode cX5_isSlot 1 = .ok (.iconst 0, 1) := by decide +kernel
theorem dX5_isSlot_2 : decode cX5_isSlot 2 = .ok (.iconst 1, 1) := by decide +kernel
theorem dX5_isSlot_3 : decode cX5_isSlot 3 = .ok (.invokestatic 116, 3) := by decide +kernel
theorem dX5_isSlot_6 : decode cX5_isSlot 6 = .ok (.ireturn, 1) := by decide +kernel
theorem dX5_isShareTo_0 : decode cX5_isShareTo 0 = .ok (.iload_n 1, 1) := by decide +kernel
theorem dX5_isShareTo_1 : decode cX5_isShareTo 1 = .ok (.iconst 0, 1) := by decide +kernel
theorem dX5_isShareTo_2 : decode cX5_isShareTo 2 = .ok (.iload_n 0, 1) := by decide +kernel
theorem dX5_isShareTo_3 : decode cX5_isShareTo 3 = .ok (.invokestatic 31, 3) := by decide +kernel
theorem dX5_isShareTo_6 : decode cX5_isShareTo 6 = .ok (.ifCond .eq 8, 3) := by decide +kernel
theorem dX5_isShareTo_9 : decode cX5_isShareTo 9 = .ok (.bipush 10, 2) := by decide +kernel
theorem dX5_isShareTo_11 : decode cX5_isShareTo 11 = .ok (.goto 4, 3) := by decide +kernel
theorem dX5_isShareTo_14 : decode cX5_isShareTo 14 = .ok (.iconst 0, 1) := by decide +kernel
theorem dX5_isShareTo_15 : decode cX5_isShareTo 15 = .ok (.invokestatic 116, 3) := by decide +kernel
theorem dX5_isShareTo_18 : decode cX5_isShareTo 18 = .ok (.ireturn, 1) := by decide +kernel
theorem dX5_isLotMass_0 : decode cX5_isLotMass 0 = .ok (.iload_n 0, 1) := by decide +kernel
theorem dX5_isLotMass_1 : decode cX5_isLotMass 1 = .ok (.iconst 0, 1) := by decide +kernel
theorem dX5_isLotMass_2 : decode cX5_isLotMass 2 = .ok (.sipush 200, 3) := by decide +kernel
theorem dX5_isLotMass_5 : decode cX5_isLotMass 5 = .ok (.invokestatic 116, 3) := by decide +kernel
theorem dX5_isLotMass_8 : decode cX5_isLotMass 8 = .ok (.ireturn, 1) := by decide +kernel
theorem dX5_areLotMasses_0 : decode cX5_areLotMasses 0 = .ok (.iload_n 0, 1) := by decide +kernel
theorem dX5_areLotMasses_1 : decode cX5_areLotMasses 1 = .ok (.invokestatic 227, 3) := by decide +kernel
theorem dX5_areLotMasses_4 : decode cX5_areLotMasses 4 = .ok (.ifCond .eq 38, 3) := by decide +kernel
theorem dX5_areLotMasses_7 : decode cX5_areLotMasses 7 = .ok (.iload_n 1, 1) := by decide +kernel
theorem dX5_areLotMasses_8 : decode cX5_areLotMasses 8 = .ok (.invokestatic 227, 3) := by decide +kernel
theorem dX5_areLotMasses_11 : decode cX5_areLotMasses 11 = .ok (.ifCond .eq 31, 3) := by decide +kernel
theorem dX5_areLotMasses_14 : decode cX5_areLotMasses 14 = .ok (.iload_n 2, 1) := by decide +kernel
theorem dX5_areLotMasses_15 : decode cX5_areLotMasses 15 = .ok (.invokestatic 227, 3) := by decide +kernel
theorem dX5_areLotMasses_18 : decode cX5_areLotMasses 18 = .ok (.ifCond .eq 24, 3) := by decide +kernel
theorem dX5_areLotMasses_21 : decode cX5_areLotMasses 21 = .ok (.iload_n 3, 1) := by decide +kernel
theorem dX5_areLotMasses_22 : decode cX5_areLotMasses 22 = .ok (.invokestatic 227, 3) := by decide +kernel
theorem dX5_areLotMasses_25 : decode cX5_areLotMasses 25 = .ok (.ifCond .eq 17, 3) := by decide +kernel
theorem dX5_areLotMasses_28 : decode cX5_areLotMasses 28 = .ok (.iload_n 0, 1) := by decide +kernel
theorem dX5_areLotMasses_29 : decode cX5_areLotMasses 29 = .ok (.iload_n 1, 1) := by decide +kernel
theorem dX5_areLotMasses_30 : decode cX5_areLotMasses 30 = .ok (.iadd, 1) := by decide +kernel
theorem dX5_areLotMasses_31 : decode cX5_areLotMasses 31 = .ok (.iload_n 2, 1) := by decide +kernel
theorem dX5_areLotMasses_32 : decode cX5_areLotMasses 32 = .ok (.iadd, 1) := by decide +kernel
theorem dX5_areLotMasses_33 : decode cX5_areLotMasses 33 = .ok (.iload_n 3, 1) := by decide +kernel
theorem dX5_areLotMasses_34 : decode cX5_areLotMasses 34 = .ok (.iadd, 1) := by decide +kernel
theorem dX5_areLotMasses_35 : decode cX5_areLotMasses 35 = .ok (.ifCond .le 7, 3) := by decide +kernel
theorem dX5_areLotMasses_38 : decode cX5_areLotMasses 38 = .ok (.iconst 1, 1) := by decide +kernel
theorem dX5_areLotMasses_39 : decode cX5_areLotMasses 39 = .ok (.goto 4, 3) := by decide +kernel
theorem dX5_areLotMasses_42 : decode cX5_areLotMasses 42 = .ok (.iconst 0, 1) := by decide +kernel
theorem dX5_areLotMasses_43 : decode cX5_areLotMasses 43 = .ok (.ireturn, 1) := by decide +kernel
theorem dX5_exchange_0 : decode cX5_exchange 0 = .ok (.iload_n 1, 1) := by decide +kernel
theorem dX5_exchange_1 : decode cX5_exchange 1 = .ok (.invokestatic 31, 3) := by decide +kernel
theorem dX5_exchange_4 : decode cX5_exchange 4 = .ok (.ifCond .ne 5, 3) := by decide +kernel
theorem dX5_exchange_7 : decode cX5_exchange 7 = .ok (.iconst (-1), 1) := by decide +kernel
theorem dX5_exchange_8 : decode cX5_exchange 8 = .ok (.ireturn, 1) := by decide +kernel
theorem dX5_exchange_9 : decode cX5_exchange 9 = .ok (.iload_n 2, 1) := by decide +kernel
theorem dX5_exchange_10 : decode cX5_exchange 10 = .ok (.iconst 0, 1) := by decide +kernel
theorem dX5_exchange_11 : decode cX5_exchange 11 = .ok (.iload_n 3, 1) := by decide +kernel
theorem dX5_exchange_12 : decode cX5_exchange 12 = .ok (.invokestatic 116, 3) := by decide +kernel
theorem dX5_exchange_15 : decode cX5_exchange 15 = .ok (.ifCond .ne 6, 3) := by decide +kernel
theorem dX5_exchange_18 : decode cX5_exchange 18 = .ok (.bipush (-3), 2) := by decide +kernel
theorem dX5_exchange_20 : decode cX5_exchange 20 = .ok (.ireturn, 1) := by decide +kernel
theorem dX5_exchange_21 : decode cX5_exchange 21 = .ok (.aload_n 0, 1) := by decide +kernel
theorem dX5_exchange_22 : decode cX5_exchange 22 = .ok (.iload_n 1, 1) := by decide +kernel
theorem dX5_exchange_23 : decode cX5_exchange 23 = .ok (.iaload, 1) := by decide +kernel
theorem dX5_exchange_24 : decode cX5_exchange 24 = .ok (.istore 4, 2) := by decide +kernel
theorem dX5_exchange_26 : decode cX5_exchange 26 = .ok (.aload_n 0, 1) := by decide +kernel
theorem dX5_exchange_27 : decode cX5_exchange 27 = .ok (.iload_n 1, 1) := by decide +kernel
theorem dX5_exchange_28 : decode cX5_exchange 28 = .ok (.iload_n 2, 1) := by decide +kernel
theorem dX5_exchange_29 : decode cX5_exchange 29 = .ok (.iastore, 1) := by decide +kernel
theorem dX5_exchange_30 : decode cX5_exchange 30 = .ok (.iload 4, 2) := by decide +kernel
theorem dX5_exchange_32 : decode cX5_exchange 32 = .ok (.ireturn, 1) := by decide +kernel
theorem dX5_sizeOrAll_0 : decode cX5_sizeOrAll 0 = .ok (.iload_n 1, 1) := by decide +kernel
theorem dX5_sizeOrAll_1 : decode cX5_sizeOrAll 1 = .ok (.iconst (-1), 1) := by decide +kernel
theorem dX5_sizeOrAll_2 : decode cX5_sizeOrAll 2 = .ok (.if_icmp .ne 8, 3) := by decide +kernel
theorem dX5_sizeOrAll_5 : decode cX5_sizeOrAll 5 = .ok (.aload_n 0, 1) := by decide +kernel
theorem dX5_sizeOrAll_6 : decode cX5_sizeOrAll 6 = .ok (.invokestatic 102, 3) := by decide +kernel
theorem dX5_sizeOrAll_9 : decode cX5_sizeOrAll 9 = .ok (.ireturn, 1) := by decide +kernel
theorem dX5_sizeOrAll_10 : decode cX5_sizeOrAll 10 = .ok (.iload_n 1, 1) := by decide +kernel
theorem dX5_sizeOrAll_11 : decode cX5_sizeOrAll 11 = .ok (.invokestatic 31, 3) := by decide +kernel
theorem dX5_sizeOrAll_14 : decode cX5_sizeOrAll 14 = .ok (.ifCond .eq 9, 3) := by decide +kernel
theorem dX5_sizeOrAll_17 : decode cX5_sizeOrAll 17 = .ok (.aload_n 0, 1) := by decide +kernel
theorem dX5_sizeOrAll_18 : decode cX5_sizeOrAll 18 = .ok (.iload_n 1, 1) := by decide +kernel
theorem dX5_sizeOrAll_19 : decode cX5_sizeOrAll 19 = .ok (.iaload, 1) := by decide +kernel
theorem dX5_sizeOrAll_20 : decode cX5_sizeOrAll 20 = .ok (.goto 4, 3) := by decide +kernel
theorem dX5_sizeOrAll_23 : decode cX5_sizeOrAll 23 = .ok (.iconst (-1), 1) := by decide +kernel
theorem dX5_sizeOrAll_24 : decode cX5_sizeOrAll 24 = .ok (.ireturn, 1) := by decide +kernel
theorem dX5_sum_0 : decode cX5_sum 0 = .ok (.iconst 0, 1) := by decide +kernel
theorem dX5_sum_1 : decode cX5_sum 1 = .ok (.istore_n 1, 1) := by decide +kernel
theorem dX5_sum_2 : decode cX5_sum 2 = .ok (.aload_n 0, 1) := by decide +kernel
theorem dX5_sum_3 : decode cX5_sum 3 = .ok (.astore_n 2, 1) := by decide +kernel
theorem dX5_sum_4 : decode cX5_sum 4 = .ok (.aload_n 2, 1) := by decide +kernel
theorem dX5_sum_5 : decode cX5_sum 5 = .ok (.arraylength, 1) := by decide +kernel
theorem dX5_sum_6 : decode cX5_sum 6 = .ok (.istore_n 3, 1) := by decide +kernel
theorem dX5_sum_7 : decode cX5_sum 7 = .ok (.iconst 0, 1) := by decide +kernel
theorem dX5_sum_8 : decode cX5_sum 8 = .ok (.istore 4, 2) := by decide +kernel
theorem dX5_sum_10 : decode cX5_sum 10 = .ok (.iload 4, 2) := by decide +kernel
theorem dX5_sum_12 : decode cX5_sum 12 = .ok (.iload_n 3, 1) := by decide +kernel
theorem dX5_sum_13 : decode cX5_sum 13 = .ok (.if_icmp .ge 20, 3) := by decide +kernel
theorem dX5_sum_16 : decode cX5_sum 16 = .ok (.aload_n 2, 1) := by decide +kernel
theorem dX5_sum_17 : decode cX5_sum 17 = .ok (.iload 4, 2) := by decide +kernel
theorem dX5_sum_19 : decode cX5_sum 19 = .ok (.iaload, 1) := by decide +kernel
theorem dX5_sum_20 : decode cX5_sum 20 = .ok (.istore 5, 2) := by decide +kernel
theorem dX5_sum_22 : decode cX5_sum 22 = .ok (.iload_n 1, 1) := by decide +kernel
theorem dX5_sum_23 : decode cX5_sum 23 = .ok (.iload 5, 2) := by decide +kernel
theorem dX5_sum_25 : decode cX5_sum 25 = .ok (.iadd, 1) := by decide +kernel
theorem dX5_sum_26 : decode cX5_sum 26 = .ok (.istore_n 1, 1) := by decide +kernel
theorem dX5_sum_27 : decode cX5_sum 27 = .ok (.iinc 4 1, 3) := by decide +kernel
theorem dX5_sum_30 : decode cX5_sum 30 = .ok (.goto (-20), 3) := by decide +kernel
theorem dX5_sum_33 : decode cX5_sum 33 = .ok (.iload_n 1, 1) := by decide +kernel
theorem dX5_sum_34 : decode cX5_sum 34 = .ok (.ireturn, 1) := by decide +kernel
theorem dX5_partOf_0 : decode cX5_partOf 0 = .ok (.lload_n 0, 1) := by decide +kernel
theorem dX5_partOf_1 : decode cX5_partOf 1 = .ok (.lload_n 2, 1) := by decide +kernel
theorem dX5_partOf_2 : decode cX5_partOf 2 = .ok (.invokestatic 230, 3) := by decide +kernel
theorem dX5_partOf_5 : decode cX5_partOf 5 = .ok (.lstore 5, 2) := by decide +kernel
theorem dX5_partOf_7 : decode cX5_partOf 7 = .ok (.iload 4, 2) := by decide +kernel
theorem dX5_partOf_9 : decode cX5_partOf 9 = .ok (.ifCond .ne 7, 3) := by decide +kernel
theorem dX5_partOf_12 : decode cX5_partOf 12 = .ok (.lload_n 0, 1) := by decide +kernel
theorem dX5_partOf_13 : decode cX5_partOf 13 = .ok (.goto 4, 3) := by decide +kernel
theorem dX5_partOf_16 : decode cX5_partOf 16 = .ok (.lload_n 2, 1) := by decide +kernel
theorem dX5_partOf_17 : decode cX5_partOf 17 = .ok (.lload 5, 2) := by decide +kernel
theorem dX5_partOf_19 : decode cX5_partOf 19 = .ok (.ldiv, 1) := by decide +kernel
theorem dX5_partOf_20 : decode cX5_partOf 20 = .ok (.lreturn, 1) := by decide +kernel
theorem dX5_commonDivisor_0 : decode cX5_commonDivisor 0 = .ok (.lload_n 0, 1) := by decide +kernel
theorem dX5_commonDivisor_1 : decode cX5_commonDivisor 1 = .ok (.lstore 4, 2) := by decide +kernel
theorem dX5_commonDivisor_3 : decode cX5_commonDivisor 3 = .ok (.lload_n 2, 1) := by decide +kernel
theorem dX5_commonDivisor_4 : decode cX5_commonDivisor 4 = .ok (.lstore 6, 2) := by decide +kernel
theorem dX5_commonDivisor_6 : decode cX5_commonDivisor 6 = .ok (.iconst 0, 1) := by decide +kernel
theorem dX5_commonDivisor_7 : decode cX5_commonDivisor 7 = .ok (.istore 8, 2) := by decide +kernel
theorem dX5_commonDivisor_9 : decode cX5_commonDivisor 9 = .ok (.iload 8, 2) := by decide +kernel
theorem dX5_commonDivisor_11 : decode cX5_commonDivisor 11 = .ok (.bipush 100, 2) := by decide +kernel
theorem dX5_commonDivisor_13 : decode cX5_commonDivisor 13 = .ok (.if_icmp .ge 31, 3) := by decide +kernel
theorem dX5_commonDivisor_16 : decode cX5_commonDivisor 16 = .ok (.lload 6, 2) := by decide +kernel
theorem dX5_commonDivisor_18 : decode cX5_commonDivisor 18 = .ok (.lconst 0, 1) := by decide +kernel
theorem dX5_commonDivisor_19 : decode cX5_commonDivisor 19 = .ok (.lcmp, 1) := by decide +kernel
theorem dX5_commonDivisor_20 : decode cX5_commonDivisor 20 = .ok (.ifCond .eq 24, 3) := by decide +kernel
theorem dX5_commonDivisor_23 : decode cX5_commonDivisor 23 = .ok (.lload 4, 2) := by decide +kernel
theorem dX5_commonDivisor_25 : decode cX5_commonDivisor 25 = .ok (.lload 6, 2) := by decide +kernel
theorem dX5_commonDivisor_27 : decode cX5_commonDivisor 27 = .ok (.lrem, 1) := by decide +kernel
theorem dX5_commonDivisor_28 : decode cX5_commonDivisor 28 = .ok (.lstore 9, 2) := by decide +kernel
theorem dX5_commonDivisor_30 : decode cX5_commonDivisor 30 = .ok (.lload 6, 2) := by decide +kernel
theorem dX5_commonDivisor_32 : decode cX5_commonDivisor 32 = .ok (.lstore 4, 2) := by decide +kernel
theorem dX5_commonDivisor_34 : decode cX5_commonDivisor 34 = .ok (.lload 9, 2) := by decide +kernel
theorem dX5_commonDivisor_36 : decode cX5_commonDivisor 36 = .ok (.lstore 6, 2) := by decide +kernel
theorem dX5_commonDivisor_38 : decode cX5_commonDivisor 38 = .ok (.iinc 8 1, 3) := by decide +kernel
theorem dX5_commonDivisor_41 : decode cX5_commonDivisor 41 = .ok (.goto (-32), 3) := by decide +kernel
theorem dX5_commonDivisor_44 : decode cX5_commonDivisor 44 = .ok (.lload 4, 2) := by decide +kernel
theorem dX5_commonDivisor_46 : decode cX5_commonDivisor 46 = .ok (.lreturn, 1) := by decide +kernel
theorem dX6_init_0 : decode cX6_init 0 = .ok (.aload_n 0, 1) := by decide +kernel
theorem dX6_init_1 : decode cX6_init 1 = .ok (.invokespecial 1, 3) := by decide +kernel
theorem dX6_init_4 : decode cX6_init 4 = .ok (.aload_n 0, 1) := by decide +kernel
theorem dX6_init_5 : decode cX6_init 5 = .ok (.sipush 361, 3) := by decide +kernel
theorem dX6_init_8 : decode cX6_init 8 = .ok (.newarray .int, 2) := by decide +kernel
theorem dX6_init_10 : decode cX6_init 10 = .ok (.putfield 7, 3) := by decide +kernel
theorem dX6_init_13 : decode cX6_init 13 = .ok (.aload_n 0, 1) := by decide +kernel
theorem dX6_init_14 : decode cX6_init 14 = .ok (.sipush 722, 3) := by decide +kernel
theorem dX6_init_17 : decode cX6_init 17 = .ok (.newarray .int, 2) := by decide +kernel
theorem dX6_init_19 : decode cX6_init 19 = .ok (.putfield 13, 3) := by decide +kernel
theorem dX6_init_22 : decode cX6_init 22 = .ok (.aload_n 0, 1) := by decide +kernel
theorem dX6_init_23 : decode cX6_init 23 = .ok (.iconst 2, 1) := by decide +kernel
theorem dX6_init_24 : decode cX6_init 24 = .ok (.newarray .boolean, 2) := by decide +kernel
theorem dX6_init_26 : decode cX6_init 26 = .ok (.putfield 16, 3) := by decide +kernel
theorem dX6_init_29 : decode cX6_init 29 = .ok (.aload_n 0, 1) := by decide +kernel
theorem dX6_init_30 : decode cX6_init 30 = .ok (.iconst 4, 1) := by decide +kernel
theorem dX6_init_31 : decode cX6_init 31 = .ok (.newarray .int, 2) := by decide +kernel
theorem dX6_init_33 : decode cX6_init 33 = .ok (.putfield 20, 3) := by decide +kernel
theorem dX6_init_36 : decode cX6_init 36 = .ok (.aload_n 0, 1) := by decide +kernel
theorem dX6_init_37 : decode cX6_init 37 = .ok (.iconst 4, 1) := by decide +kernel
theorem dX6_init_38 : decode cX6_init 38 = .ok (.newarray .long, 2) := by decide +kernel
theorem dX6_init_40 : decode cX6_init 40 = .ok (.putfield 23, 3) := by decide +kernel
theorem dX6_init_43 : decode cX6_init 43 = .ok (.aload_n 0, 1) := by decide +kernel
theorem dX6_init_44 : decode cX6_init 44 = .ok (.iconst 4, 1) := by decide +kernel
theorem dX6_init_45 : decode cX6_init 45 = .ok (.newarray .int, 2) := by decide +kernel
theorem dX6_init_47 : decode cX6_init 47 = .ok (.putfield 27, 3) := by decide +kernel
theorem dX6_init_50 : decode cX6_init 50 = .ok (.iconst 0, 1) := by decide +kernel
theorem dX6_init_51 : decode cX6_init 51 = .ok (.istore_n 1, 1) := by decide +kernel
theorem dX6_init_52 : decode cX6_init 52 = .ok (.iload_n 1, 1) := by decide +kernel
theorem dX6_init_53 : decode cX6_init 53 = .ok (.iconst 4, 1) := by decide +kernel
theorem dX6_init_54 : decode cX6_init 54 = .ok (.if_icmp .ge 31, 3) := by decide +kernel
theorem dX6_init_57 : decode cX6_init 57 = .ok (.aload_n 0, 1) := by decide +kernel
theorem dX6_init_58 : decode cX6_init 58 = .ok (.getfield 7, 3) := by decide +kernel
theorem dX6_init_61 : decode cX6_init 61 = .ok (.iconst 0, 1) := by decide +kernel
theorem dX6_init_62 : decode cX6_init 62 = .ok (.iconst 5, 1) := by decide +kernel
theorem dX6_init_63 : decode cX6_init 63 = .ok (.iload_n 1, 1) := by decide +kernel
theorem dX6_init_64 : decode cX6_init 64 = .ok (.imul, 1) := by decide +kernel
theorem dX6_init_65 : decode cX6_init 65 = .ok (.iadd, 1) := by decide +kernel
theorem dX6_init_66 : decode cX6_init 66 = .ok (.bipush 10, 2) := by decide +kernel
theorem dX6_init_68 : decode cX6_init 68 = .ok (.iastore, 1) := by decide +kernel
theorem dX6_init_69 : decode cX6_init 69 = .ok (.aload_n 0, 1) := by decide +kernel
theorem dX6_init_70 : decode cX6_init 70 = .ok (.getfield 7, 3) := by decide +kernel
theorem dX6_init_73 : decode cX6_init 73 = .ok (.bipush 20, 2) := by decide +kernel
theorem dX6_init_75 : decode cX6_init 75 = .ok (.iload_n 1, 1) := by decide +kernel
theorem dX6_init_76 : decode cX6_init 76 = .ok (.iadd, 1) := by decide +kernel
theorem dX6_init_77 : decode cX6_init 77 = .ok (.iconst 1, 1) := by decide +kernel
theorem dX6_init_78 : decode cX6_init 78 = .ok (.iastore, 1) := by decide +kernel
theorem dX6_init_79 : decode cX6_init 79 = .ok (.iinc 1 1, 3) := by decide +kernel
theorem dX6_init_82 : decode cX6_init 82 = .ok (.goto (-30), 3) := by decide +kernel
theorem dX6_init_85 : decode cX6_init 85 = .ok (.aload_n 0, 1) := by decide +kernel
theorem dX6_init_86 : decode cX6_init 86 = .ok (.getfield 7, 3) := by decide +kernel
theorem dX6_init_89 : decode cX6_init 89 = .ok (.bipush 28, 2) := by decide +kernel
theorem dX6_init_91 : decode cX6_init 91 = .ok (.bipush 10, 2) := by decide +kernel
theorem dX6_init_93 : decode cX6_init 93 = .ok (.iastore, 1) := by decide +kernel
theorem dX6_init_94 : decode cX6_init 94 = .ok (.aload_n 0, 1) := by decide +kernel
theorem dX6_init_95 : decode cX6_init 95 = .ok (.getfield 7, 3) := by decide +kernel
theorem dX6_init_98 : decode cX6_init 98 = .ok (.bipush 35, 2) := by decide +kernel
theorem dX6_init_100 : decode cX6_init 100 = .ok (.bipush (-7), 2) := by decide +kernel
theorem dX6_init_102 : decode cX6_init 102 = .ok (.iastore, 1) := by decide +kernel
theorem dX6_init_103 : decode cX6_init 103 = .ok (.return_, 1) := by decide +kernel
theorem dX6_in_0 : decode cX6_in 0 = .ok (.iload_n 0, 1) := by decide +kernel
theorem dX6_in_1 : decode cX6_in 1 = .ok (.iload_n 1, 1) := by decide +kernel
theorem dX6_in_2 : decode cX6_in 2 = .ok (.if_icmp .lt 12, 3) := by decide +kernel
theorem dX6_in_5 : decode cX6_in 5 = .ok (.iload_n 0, 1) := by decide +kernel
theorem dX6_in_6 : decode cX6_in 6 = .ok (.iload_n 2, 1) := by decide +kernel
theorem dX6_in_7 : decode cX6_in 7 = .ok (.if_icmp .gt 7, 3) := by decide +kernel
theorem dX6_in_10 : decode cX6_in 10 = .ok (.iconst 1, 1) := by decide +kernel
theorem dX6_in_11 : decode cX6_in 11 = .ok (.goto 4, 3) := by decide +kernel
theorem dX6_in_14 : decode cX6_in 14 = .ok (.iconst 0, 1) := by decide +kernel
theorem dX6_in_15 : decode cX6_in 15 = .ok (.ireturn, 1) := by decide +kernel
theorem dX6_isSize_0 : decode cX6_isSize 0 = .ok (.iload_n 0, 1) := by decide +kernel
theorem dX6_isSize_1 : decode cX6_isSize 1 = .ok (.iconst 0, 1) := by decide +kernel
theorem dX6_isSize_2 : decode cX6_isSize 2 = .ok (.iconst 3, 1) := by decide +kernel
theorem dX6_isSize_3 : decode cX6_isSize 3 = .ok (.invokestatic 30, 3) := by decide +kernel
theorem dX6_isSize_6 : decode cX6_isSize 6 = .ok (.ireturn, 1) := by decide +kernel
theorem dX6_shareOf_0 : decode cX6_shareOf 0 = .ok (.aload_n 0, 1) := by decide +kernel
theorem dX6_shareOf_1 : decode cX6_shareOf 1 = .ok (.getfield 7, 3) := by decide +kernel
theorem dX6_shareOf_4 : decode cX6_shareOf 4 = .ok (.iconst 0, 1) := by decide +kernel
theorem dX6_shareOf_5 : decode cX6_shareOf 5 = .ok (.iconst 4, 1) := by decide +kernel
theorem dX6_shareOf_6 : decode cX6_shareOf 6 = .ok (.iload_n 1, 1) := by decide +kernel
theorem dX6_shareOf_7 : decode cX6_shareOf 7 = .ok (.imul, 1) := by decide +kernel
theorem dX6_shareOf_8 : decode cX6_shareOf 8 = .ok (.iadd, 1) := by decide +kernel
theorem dX6_shareOf_9 : decode cX6_shareOf 9 = .ok (.iload_n 2, 1) := by decide +kernel
theorem dX6_shareOf_10 : decode cX6_shareOf 10 = .ok (.iadd, 1) := by decide +kernel
theorem dX6_shareOf_11 : decode cX6_shareOf 11 = .ok (.iaload, 1) := by decide +kernel
theorem dX6_shareOf_12 : decode cX6_shareOf 12 = .ok (.ireturn, 1) := by decide +kernel
theorem dX6_setBreakage_0 : decode cX6_setBreakage 0 = .ok (.iload_n 1, 1) := by decide +kernel
theorem dX6_setBreakage_1 : decode cX6_setBreakage 1 = .ok (.invokestatic 34, 3) := by decide +kernel
theorem dX6_setBreakage_4 : decode cX6_setBreakage 4 = .ok (.ifCond .ne 5, 3) := by decide +kernel
theorem dX6_setBreakage_7 : decode cX6_setBreakage 7 = .ok (.iconst (-1), 1) := by decide +kernel
theorem dX6_setBreakage_8 : decode cX6_setBreakage 8 = .ok (.ireturn, 1) := by decide +kernel
theorem dX6_setBreakage_9 : decode cX6_setBreakage 9 = .ok (.iload_n 2, 1) := by decide +kernel
theorem dX6_setBreakage_10 : decode cX6_setBreakage 10 = .ok (.iconst 0, 1) := by decide +kernel
theorem dX6_setBreakage_11 : decode cX6_setBreakage 11 = .ok (.bipush 10, 2) := by decide +kernel
theorem dX6_setBreakage_13 : decode cX6_setBreakage 13 = .ok (.invokestatic 30, 3) := by decide +kernel
theorem dX6_setBreakage_16 : decode cX6_setBreakage 16 = .ok (.ifCond .eq 39, 3) := by decide +kernel
theorem dX6_setBreakage_19 : decode cX6_setBreakage 19 = .ok (.iload_n 3, 1) := by decide +kernel
theorem dX6_setBreakage_20 : decode cX6_setBreakage 20 = .ok (.iconst 0, 1) := by decide +kernel
theorem dX6_setBreakage_21 : decode cX6_setBreakage 21 = .ok (.bipush 10, 2) := by decide +kernel
theorem dX6_setBreakage_23 : decode cX6_setBreakage 23 = .ok (.invokestatic 30, 3) := by decide +kernel
theorem dX6_setBreakage_26 : decode cX6_setBreakage 26 = .ok (.ifCond .eq 29, 3) := by decide +kernel
theorem dX6_setBreakage_29 : decode cX6_setBreakage 29 = .ok (.iload 4, 2) := by decide +kernel
theorem dX6_setBreakage_31 : decode cX6_setBreakage 31 = .ok (.iconst 0, 1) := by decide +kernel
theorem dX6_setBreakage_32 : decode cX6_setBreakage 32 = .ok (.bipush 10, 2) := by decide +kernel
theorem dX6_setBreakage_34 : decode cX6_setBreakage 34 = .ok (.invokestatic 30, 3) := by decide +kernel
theorem dX6_setBreakage_37 : decode cX6_setBreakage 37 = .ok (.ifCond .eq 18, 3) := by decide +kernel
theorem dX6_setBreakage_40 : decode cX6_setBreakage 40 = .ok (.iload_n 2, 1) := by decide +kernel
theorem dX6_setBreakage_41 : decode cX6_setBreakage 41 = .ok (.iload_n 3, 1) := by decide +kernel
theorem dX6_setBreakage_42 : decode cX6_setBreakage 42 = .ok (.iadd, 1) := by decide +kernel
theorem dX6_setBreakage_43 : decode cX6_setBreakage 43 = .ok (.iload 4, 2) := by decide +kernel
theorem dX6_setBreakage_45 : decode cX6_setBreakage 45 = .ok (.iadd, 1) := by decide +kernel
theorem dX6_setBreakage_46 : decode cX6_setBreakage 46 = .ok (.bipush 10, 2) := by decide +kernel
theorem dX6_setBreakage_48 : decode cX6_setBreakage 48 = .ok (.if_icmp .gt 7, 3) := by decide +kernel
theorem dX6_setBreakage_51 : decode cX6_setBreakage 51 = .ok (.iconst 1, 1) := by decide +kernel
theorem dX6_setBreakage_52 : decode cX6_setBreakage 52 = .ok (.goto 4, 3) := by decide +kernel
theorem dX6_setBreakage_55 : decode cX6_setBreakage 55 = .ok (.iconst 0, 1) := by decide +kernel
theorem dX6_setBreakage_56 : decode cX6_setBreakage 56 = .ok (.istore 5, 2) := by decide +kernel
theorem dX6_setBreakage_58 : decode cX6_setBreakage 58 = .ok (.iload 5, 2) := by decide +kernel
theorem dX6_setBreakage_60 : decode cX6_setBreakage 60 = .ok (.ifCond .eq 35, 3) := by decide +kernel
theorem dX6_setBreakage_63 : decode cX6_setBreakage 63 = .ok (.iload_n 1, 1) := by decide +kernel
theorem dX6_setBreakage_64 : decode cX6_setBreakage 64 = .ok (.iconst 3, 1) := by decide +kernel
theorem dX6_setBreakage_65 : decode cX6_setBreakage 65 = .ok (.if_icmp .lt 7, 3) := by decide +kernel
theorem dX6_setBreakage_68 : decode cX6_setBreakage 68 = .ok (.iload_n 2, 1) := by decide +kernel
theorem dX6_setBreakage_69 : decode cX6_setBreakage 69 = .ok (.ifCond .ne 26, 3) := by decide +kernel
theorem dX6_setBreakage_72 : decode cX6_setBreakage 72 = .ok (.iload_n 1, 1) := by decide +kernel
theorem dX6_setBreakage_73 : decode cX6_setBreakage 73 = .ok (.iconst 2, 1) := by decide +kernel
theorem dX6_setBreakage_74 : decode cX6_setBreakage 74 = .ok (.if_icmp .lt 7, 3) := by decide +kernel
theorem dX6_setBreakage_77 : decode cX6_setBreakage 77 = .ok (.iload_n 3, 1) := by decide +kernel
theorem dX6_setBreakage_78 : decode cX6_setBreakage 78 = .ok (.ifCond .ne 17, 3) := by decide +kernel
theorem dX6_setBreakage_81 : decode cX6_setBreakage 81 = .ok (.iload_n 1, 1) := by decide +kernel
theorem dX6_setBreakage_82 : decode cX6_setBreakage 82 = .ok (.iconst 1, 1) := by decide +kernel
theorem dX6_setBreakage_83 : decode cX6_setBreakage 83 = .ok (.if_icmp .lt 8, 3) := by decide +kernel
theorem dX6_setBreakage_86 : decode cX6_setBreakage 86 = .ok (.iload 4, 2) := by decide +kernel
theorem dX6_setBreakage_88 : decode cX6_setBreakage 88 = .ok (.ifCond .ne 7, 3) := by decide +kernel
theorem dX6_setBreakage_91 : decode cX6_setBreakage 91 = .ok (.iconst 1, 1) := by decide +kernel
theorem dX6_setBreakage_92 : decode cX6_setBreakage 92 = .ok (.goto 4, 3) := by decide +kernel
theorem dX6_setBreakage_95 : decode cX6_setBreakage 95 = .ok (.iconst 0, 1) := by decide +kernel
theorem dX6_setBreakage_96 : decode cX6_setBreakage 96 = .ok (.istore 5, 2) := by decide +kernel
theorem dX6_setBreakage_98 : decode cX6_setBreakage 98 = .ok (.iload 5, 2) := by decide +kernel
theorem dX6_setBreakage_100 : decode cX6_setBreakage 100 = .ok (.ifCond .ne 6, 3) := by decide +kernel
theorem dX6_setBreakage_103 : decode cX6_setBreakage 103 = .ok (.bipush (-3), 2) := by decide +kernel
theorem dX6_setBreakage_105 : decode cX6_setBreakage 105 = .ok (.ireturn, 1) := by decide +kernel
theorem dX6_setBreakage_106 : decode cX6_setBreakage 106 = .ok (.iconst 0, 1) := by decide +kernel
theorem dX6_setBreakage_107 : decode cX6_setBreakage 107 = .ok (.iconst 5, 1) := by decide +kernel
theorem dX6_setBreakage_108 : decode cX6_setBreakage 108 = .ok (.iload_n 1, 1) := by decide +kernel
theorem dX6_setBreakage_109 : decode cX6_setBreakage 109 = .ok (.imul, 1) := by decide +kernel
theorem dX6_setBreakage_110 : decode cX6_setBreakage 110 = .ok (.iadd, 1) := by decide +kernel
theorem dX6_setBreakage_111 : decode cX6_setBreakage 111 = .ok (.istore 6, 2) := by decide +kernel
theorem dX6_setBreakage_113 : decode cX6_setBreakage 113 = .ok (.aload_n 0, 1) := by decide +kernel
theorem dX6_setBreakage_114 : decode cX6_setBreakage 114 = .ok (.getfield 7, 3) := by decide +kernel
theorem dX6_setBreakage_117 : decode cX6_setBreakage 117 = .ok (.iload 6, 2) := by decide +kernel
theorem dX6_setBreakage_119 : decode cX6_setBreakage 119 = .ok (.bipush 10, 2) := by decide +kernel
theorem dX6_setBreakage_121 : decode cX6_setBreakage 121 = .ok (.iload_n 2, 1) := by decide +kernel
theorem dX6_setBreakage_122 : decode cX6_setBreakage 122 = .ok (.isub, 1) := by decide +kernel
theorem dX6_setBreakage_123 : decode cX6_setBreakage 123 = .ok (.iload_n 3, 1) := by decide +kernel
theorem dX6_setBreakage_124 : decode cX6_setBreakage 124 = .ok (.isub, 1) := by decide +kernel
theorem dX6_setBreakage_125 : decode cX6_setBreakage 125 = .ok (.iload 4, 2) := by decide +kernel
theorem dX6_setBreakage_127 : decode cX6_setBreakage 127 = .ok (.isub, 1) := by decide +kernel
theorem dX6_setBreakage_128 : decode cX6_setBreakage 128 = .ok (.iastore, 1) := by decide +kernel
theorem dX6_setBreakage_129 : decode cX6_setBreakage 129 = .ok (.iload_n 1, 1) := by decide +kernel
theorem dX6_setBreakage_130 : decode cX6_setBreakage 130 = .ok (.iconst 3, 1) := by decide +kernel
theorem dX6_setBreakage_131 : decode cX6_setBreakage 131 = .ok (.if_icmp .ge 13, 3) := by decide +kernel
theorem dX6_setBreakage_134 : decode cX6_setBreakage 134 = .ok (.aload_n 0, 1) := by decide +kernel
theorem dX6_setBreakage_135 : decode cX6_setBreakage 135 = .ok (.getfield 7, 3) := by decide +kernel
theorem dX6_setBreakage_138 : decode cX6_setBreakage 138 = .ok (.iload 6, 2) := by decide +kernel
theorem dX6_setBreakage_140 : decode cX6_setBreakage 140 = .ok (.iconst 1, 1) := by decide +kernel
theorem dX6_setBreakage_141 : decode cX6_setBreakage 141 = .ok (.iadd, 1) := by decide +kernel
theorem dX6_setBreakage_142 : decode cX6_setBreakage 142 = .ok (.iload_n 2, 1) := by decide +kernel
theorem dX6_setBreakage_143 : decode cX6_setBreakage 143 = .ok (.iastore, 1) := by decide +kernel
theorem dX6_setBreakage_144 : decode cX6_setBreakage 144 = .ok (.iload_n 1, 1) := by decide +kernel
theorem dX6_setBreakage_145 : decode cX6_setBreakage 145 = .ok (.iconst 2, 1) := by decide +kernel
theorem dX6_setBreakage_146 : decode cX6_setBreakage 146 = .ok (.if_icmp .ge 13, 3) := by decide +kernel
theorem dX6_setBreakage_149 : decode cX6_setBreakage 149 = .ok (.aload_n 0, 1) := by decide +kernel
theorem dX6_setBreakage_150 : decode cX6_setBreakage 150 = .ok (.getfield 7, 3) := by decide +kernel
theorem dX6_setBreakage_153 : decode cX6_setBreakage 153 = .ok (.iload 6, 2) := by decide +kernel
theorem dX6_setBreakage_155 : decode cX6_setBreakage 155 = .ok (.iconst 2, 1) := by decide +kernel
theorem dX6_setBreakage_156 : decode cX6_setBreakage 156 = .ok (.iadd, 1) := by decide +kernel
theorem dX6_setBreakage_157 : decode cX6_setBreakage 157 = .ok (.iload_n 3, 1) := by decide +kernel
theorem dX6_setBreakage_158 : decode cX6_setBreakage 158 = .ok (.iastore, 1) := by decide +kernel
theorem dX6_setBreakage_159 : decode cX6_setBreakage 159 = .ok (.iload_n 1, 1) := by decide +kernel
theorem dX6_setBreakage_160 : decode cX6_setBreakage 160 = .ok (.iconst 1, 1) := by decide +kernel
theorem dX6_setBreakage_161 : decode cX6_setBreakage 161 = .ok (.if_icmp .ge 14, 3) := by decide +kernel
theorem dX6_setBreakage_164 : decode cX6_setBreakage 164 = .ok (.aload_n 0, 1) := by decide +kernel
theorem dX6_setBreakage_165 : decode cX6_setBreakage 165 = .ok (.getfield 7, 3) := by decide +kernel
theorem dX6_setBreakage_168 : decode cX6_setBreakage 168 = .ok (.iload 6, 2) := by decide +kernel
theorem dX6_setBreakage_170 : decode cX6_setBreakage 170 = .ok (.iconst 3, 1) := by decide +kernel
theorem dX6_setBreakage_171 : decode cX6_setBreakage 171 = .ok (.iadd, 1) := by decide +kernel
theorem dX6_setBreakage_172 : decode cX6_setBreakage 172 = .ok (.iload 4, 2) := by decide +kernel
theorem dX6_setBreakage_174 : decode cX6_setBreakage 174 = .ok (.iastore, 1) := by decide +kernel
theorem dX6_setBreakage_175 : decode cX6_setBreakage 175 = .ok (.aload_n 0, 1) := by decide +kernel
theorem dX6_setBreakage_176 : decode cX6_setBreakage 176 = .ok (.getfield 7, 3) := by decide +kernel
theorem dX6_setBreakage_179 : decode cX6_setBreakage 179 = .ok (.iload 6, 2) := by decide +kernel
theorem dX6_setBreakage_181 : decode cX6_setBreakage 181 = .ok (.iaload, 1) := by decide +kernel
theorem dX6_setBreakage_182 : decode cX6_setBreakage 182 = .ok (.ireturn, 1) := by decide +kernel
theorem dX6_share_0 : decode cX6_share 0 = .ok (.iload_n 1, 1) := by decide +kernel
theorem dX6_share_1 : decode cX6_share 1 = .ok (.invokestatic 34, 3) := by decide +kernel
theorem dX6_share_4 : decode cX6_share 4 = .ok (.ifCond .eq 19, 3) := by decide +kernel
theorem dX6_share_7 : decode cX6_share 7 = .ok (.iload_n 2, 1) := by decide +kernel
theorem dX6_share_8 : decode cX6_share 8 = .ok (.invokestatic 34, 3) := by decide +kernel
theorem dX6_share_11 : decode cX6_share 11 = .ok (.ifCond .eq 12, 3) := by decide +kernel
theorem dX6_share_14 : decode cX6_share 14 = .ok (.aload_n 0, 1) := by decide +kernel
theorem dX6_share_15 : decode cX6_share 15 = .ok (.iload_n 1, 1) := by decide +kernel
theorem dX6_share_16 : decode cX6_share 16 = .ok (.iload_n 2, 1) := by decide +kernel
theorem dX6_share_17 : decode cX6_share 17 = .ok (.invokevirtual 38, 3) := by decide +kernel
theorem dX6_share_20 : decode cX6_share 20 = .ok (.goto 4, 3) := by decide +kernel
theorem dX6_share_23 : decode cX6_share 23 = .ok (.iconst (-1), 1) := by decide +kernel
theorem dX6_share_24 : decode cX6_share 24 = .ok (.ireturn, 1) := by decide +kernel
theorem dX6_set_0 : decode cX6_set 0 = .ok (.aload_n 0, 1) := by decide +kernel
theorem dX6_set_1 : decode cX6_set 1 = .ok (.getfield 7, 3) := by decide +kernel
theorem dX6_set_4 : decode cX6_set 4 = .ok (.iload_n 1, 1) := by decide +kernel
theorem dX6_set_5 : decode cX6_set 5 = .ok (.iaload, 1) := by decide +kernel
theorem dX6_set_6 : decode cX6_set 6 = .ok (.istore_n 3, 1) := by decide +kernel
theorem dX6_set_7 : decode cX6_set 7 = .ok (.aload_n 0, 1) := by decide +kernel
theorem dX6_set_8 : decode cX6_set 8 = .ok (.getfield 7, 3) := by decide +kernel
theorem dX6_set_11 : decode cX6_set 11 = .ok (.iload_n 1, 1) := by decide +kernel
theorem dX6_set_12 : decode cX6_set 12 = .ok (.iload_n 2, 1) := by decide +kernel
theorem dX6_set_13 : decode cX6_set 13 = .ok (.iastore, 1) := by decide +kernel
theorem dX6_set_14 : decode cX6_set 14 = .ok (.iload_n 3, 1) := by decide +kernel
theorem dX6_set_15 : decode cX6_set 15 = .ok (.ireturn, 1) := by decide +kernel
theorem dX6_setReturn_0 : decode cX6_setReturn 0 = .ok (.iload_n 1, 1) := by decide +kernel
theorem dX6_setReturn_1 : decode cX6_setReturn 1 = .ok (.invokestatic 34, 3) := by decide +kernel
theorem dX6_setReturn_4 : decode cX6_setReturn 4 = .ok (.ifCond .ne 5, 3) := by decide +kernel
theorem dX6_setReturn_7 : decode cX6_setReturn 7 = .ok (.iconst (-1), 1) := by decide +kernel
theorem dX6_setReturn_8 : decode cX6_setReturn 8 = .ok (.ireturn, 1) := by decide +kernel
theorem dX6_setReturn_9 : decode cX6_setReturn 9 = .ok (.iload_n 2, 1) := by decide +kernel
theorem dX6_setReturn_10 : decode cX6_setReturn 10 = .ok (.iconst 0, 1) := by decide +kernel
theorem dX6_setReturn_11 : decode cX6_setReturn 11 = .ok (.bipush 10, 2) := by decide +kernel
theorem dX6_setReturn_13 : decode cX6_setReturn 13 = .ok (.invokestatic 30, 3) := by decide +kernel
theorem dX6_setReturn_16 : decode cX6_setReturn 16 = .ok (.ifCond .eq 15, 3) := by decide +kernel
theorem dX6_setReturn_19 : decode cX6_setReturn 19 = .ok (.aload_n 0, 1) := by decide +kernel
theorem dX6_setReturn_20 : decode cX6_setReturn 20 = .ok (.bipush 16, 2) := by decide +kernel
theorem dX6_setReturn_22 : decode cX6_setReturn 22 = .ok (.iload_n 1, 1) := by decide +kernel
theorem dX6_setReturn_23 : decode cX6_setReturn 23 = .ok (.iadd, 1) := by decide +kernel
theorem dX6_setReturn_24 : decode cX6_setReturn 24 = .ok (.iload_n 2, 1) := by decide +kernel
theorem dX6_setReturn_25 : decode cX6_setReturn 25 = .ok (.invokevirtual 42, 3) := by decide +kernel
theorem dX6_setReturn_28 : decode cX6_setReturn 28 = .ok (.goto 5, 3) := by decide +kernel
theorem dX6_setReturn_31 : decode cX6_setReturn 31 = .ok (.bipush (-3), 2) := by decide +kernel
theorem dX6_setReturn_33 : decode cX6_setReturn 33 = .ok (.ireturn, 1) := by decide +kernel
theorem dX6_setWork_0 : decode cX6_setWork 0 = .ok (.iload_n 1, 1) := by decide +kernel
theorem dX6_setWork_1 : decode cX6_setWork 1 = .ok (.invokestatic 34, 3) := by decide +kernel
theorem dX6_setWork_4 : decode cX6_setWork 4 = .ok (.ifCond .ne 5, 3) := by decide +kernel
theorem dX6_setWork_7 : decode cX6_setWork 7 = .ok (.iconst (-1), 1) := by decide +kernel
theorem dX6_setWork_8 : decode cX6_setWork 8 = .ok (.ireturn, 1) := by decide +kernel
theorem dX6_setWork_9 : decode cX6_setWork 9 = .ok (.iload_n 2, 1) := by decide +kernel
theorem dX6_setWork_10 : decode cX6_setWork 10 = .ok (.iconst 0, 1) := by decide +kernel
theorem dX6_setWork_11 : decode cX6_setWork 11 = .ok (.bipush 100, 2) := by decide +kernel
theorem dX6_setWork_13 : decode cX6_setWork 13 = .ok (.invokestatic 30, 3) := by decide +kernel
theorem dX6_setWork_16 : decode cX6_setWork 16 = .ok (.ifCond .eq 15, 3) := by decide +kernel
theorem dX6_setWork_19 : decode cX6_setWork 19 = .ok (.aload_n 0, 1) := by decide +kernel
theorem dX6_setWork_20 : decode cX6_setWork 20 = .ok (.bipush 20, 2) := by decide +kernel
theorem dX6_setWork_22 : decode cX6_setWork 22 = .ok (.iload_n 1, 1) := by decide +kernel
theorem dX6_setWork_23 : decode cX6_setWork 23 = .ok (.iadd, 1) := by decide +kernel
theorem dX6_setWork_24 : decode cX6_setWork 24 = .ok (.iload_n 2, 1) := by decide +kernel
theorem dX6_setWork_25 : decode cX6_setWork 25 = .ok (.invokevirtual 42, 3) := by decide +kernel
theorem dX6_setWork_28 : decode cX6_setWork 28 = .ok (.goto 5, 3) := by decide +kernel
theorem dX6_setWork_31 : decode cX6_setWork 31 = .ok (.bipush (-3), 2) := by decide +kernel
theorem dX6_setWork_33 : decode cX6_setWork 33 = .ok (.ireturn, 1) := by decide +kernel
theorem dX6_setFeed_0 : decode cX6_setFeed 0 = .ok (.iload_n 1, 1) := by decide +kernel
theorem dX6_setFeed_1 : decode cX6_setFeed 1 = .ok (.invokestatic 34, 3) := by decide +kernel
theorem dX6_setFeed_4 : decode cX6_setFeed 4 = .ok (.ifCond .ne 5, 3) := by decide +kernel
theorem dX6_setFeed_7 : decode cX6_setFeed 7 = .ok (.iconst (-1), 1) := by decide +kernel
theorem dX6_setFeed_8 : decode cX6_setFeed 8 = .ok (.ireturn, 1) := by decide +kernel
theorem dX6_setFeed_9 : decode cX6_setFeed 9 = .ok (.iload_n 2, 1) := by decide +kernel
theorem dX6_setFeed_10 : decode cX6_setFeed 10 = .ok (.iconst 0, 1) := by decide +kernel
theorem dX6_setFeed_11 : decode cX6_setFeed 11 = .ok (.sipush 1000, 3) := by decide +kernel
theorem dX6_setFeed_14 : decode cX6_setFeed 14 = .ok (.invokestatic 30, 3) := by decide +kernel
theorem dX6_setFeed_17 : decode cX6_setFeed 17 = .ok (.ifCond .eq 15, 3) := by decide +kernel
theorem dX6_setFeed_20 : decode cX6_setFeed 20 = .ok (.aload_n 0, 1) := by decide +kernel
theorem dX6_setFeed_21 : decode cX6_setFeed 21 = .ok (.bipush 24, 2) := by decide +kernel
theorem dX6_setFeed_23 : decode cX6_setFeed 23 = .ok (.iload_n 1, 1) := by decide +kernel
theorem dX6_setFeed_24 : decode cX6_setFeed 24 = .ok (.iadd, 1) := by decide +kernel
theorem dX6_setFeed_25 : decode cX6_setFeed 25 = .ok (.iload_n 2, 1) := by decide +kernel
theorem dX6_setFeed_26 : decode cX6_setFeed 26 = .ok (.invokevirtual 42, 3) := by decide +kernel
theorem dX6_setFeed_29 : decode cX6_setFeed 29 = .ok (.goto 5, 3) := by decide +kernel
theorem dX6_setFeed_32 : decode cX6_setFeed 32 = .ok (.bipush (-3), 2) := by decide +kernel
theorem dX6_setFeed_34 : decode cX6_setFeed 34 = .ok (.ireturn, 1) := by decide +kernel
theorem dX6_asSet_0 : decode cX6_asSet 0 = .ok (.iconst 0, 1) := by decide +kernel
theorem dX6_asSet_1 : decode cX6_asSet 1 = .ok (.istore_n 1, 1) := by decide +kernel
theorem dX6_asSet_2 : decode cX6_asSet 2 = .ok (.iload_n 1, 1) := by decide +kernel
theorem dX6_asSet_3 : decode cX6_asSet 3 = .ok (.iconst 4, 1) := by decide +kernel
theorem dX6_asSet_4 : decode cX6_asSet 4 = .ok (.if_icmp .ge 24, 3) := by decide +kernel
theorem dX6_asSet_7 : decode cX6_asSet 7 = .ok (.aload_n 0, 1) := by decide +kernel
theorem dX6_asSet_8 : decode cX6_asSet 8 = .ok (.getfield 20, 3) := by decide +kernel
theorem dX6_asSet_11 : decode cX6_asSet 11 = .ok (.iload_n 1, 1) := by decide +kernel
theorem dX6_asSet_12 : decode cX6_asSet 12 = .ok (.aload_n 0, 1) := by decide +kernel
theorem dX6_asSet_13 : decode cX6_asSet 13 = .ok (.getfield 7, 3) := by decide +kernel
theorem dX6_asSet_16 : decode cX6_asSet 16 = .ok (.bipush 16, 2) := by decide +kernel
theorem dX6_asSet_18 : decode cX6_asSet 18 = .ok (.iload_n 1, 1) := by decide +kernel
theorem dX6_asSet_19 : decode cX6_asSet 19 = .ok (.iadd, 1) := by decide +kernel
theorem dX6_asSet_20 : decode cX6_asSet 20 = .ok (.iaload, 1) := by decide +kernel
theorem dX6_asSet_21 : decode cX6_asSet 21 = .ok (.iastore, 1) := by decide +kernel
theorem dX6_asSet_22 : decode cX6_asSet 22 = .ok (.iinc 1 1, 3) := by decide +kernel
theorem dX6_asSet_25 : decode cX6_asSet 25 = .ok (.goto (-23), 3) := by decide +kernel
theorem dX6_asSet_28 : decode cX6_asSet 28 = .ok (.return_, 1) := by decide +kernel
theorem dX6_asCut_0 : decode cX6_asCut 0 = .ok (.iconst 0, 1) := by decide +kernel
theorem dX6_asCut_1 : decode cX6_asCut 1 = .ok (.istore_n 2, 1) := by decide +kernel
theorem dX6_asCut_2 : decode cX6_asCut 2 = .ok (.iload_n 2, 1) := by decide +kernel
theorem dX6_asCut_3 : decode cX6_asCut 3 = .ok (.iconst 4, 1) := by decide +kernel
theorem dX6_asCut_4 : decode cX6_asCut 4 = .ok (.if_icmp .ge 26, 3) := by decide +kernel
theorem dX6_asCut_7 : decode cX6_asCut 7 = .ok (.aload_n 0, 1) := by decide +kernel
theorem dX6_asCut_8 : decode cX6_asCut 8 = .ok (.getfield 20, 3) := by decide +kernel
theorem dX6_asCut_11 : decode cX6_asCut 11 = .ok (.iload_n 2, 1) := by decide +kernel
theorem dX6_asCut_12 : decode cX6_asCut 12 = .ok (.iload_n 2, 1) := by decide +kernel
theorem dX6_asCut_13 : decode cX6_asCut 13 = .ok (.iload_n 1, 1) := by decide +kernel
theorem dX6_asCut_14 : decode cX6_asCut 14 = .ok (.if_icmp .ge 8, 3) := by decide +kernel
theorem dX6_asCut_17 : decode cX6_asCut 17 = .ok (.bipush 10, 2) := by decide +kernel
theorem dX6_asCut_19 : decode cX6_asCut 19 = .ok (.goto 4, 3) := by decide +kernel
theorem dX6_asCut_22 : decode cX6_asCut 22 = .ok (.iconst 0, 1) := by decide +kernel
theorem dX6_asCut_23 : decode cX6_asCut 23 = .ok (.iastore, 1) := by decide +kernel
theorem dX6_asCut_24 : decode cX6_asCut 24 = .ok (.iinc 2 1, 3) := by decide +kernel
theorem dX6_asCut_27 : decode cX6_asCut 27 = .ok (.goto (-25), 3) := by decide +kernel
theorem dX6_asCut_30 : decode cX6_asCut 30 = .ok (.return_, 1) := by decide +kernel
theorem dX6_layLoads_0 : decode cX6_layLoads 0 = .ok (.aload_n 0, 1) := by decide +kernel
theorem dX6_layLoads_1 : decode cX6_layLoads 1 = .ok (.lconst 1, 1) := by decide +kernel
theorem dX6_layLoads_2 : decode cX6_layLoads 2 = .ok (.putfield 45, 3) := by decide +kernel
theorem dX6_layLoads_5 : decode cX6_layLoads 5 = .ok (.iconst 0, 1) := by decide +kernel
theorem dX6_layLoads_6 : decode cX6_layLoads 6 = .ok (.istore_n 1, 1) := by decide +kernel
theorem dX6_layLoads_7 : decode cX6_layLoads 7 = .ok (.iload_n 1, 1) := by decide +kernel
theorem dX6_layLoads_8 : decode cX6_layLoads 8 = .ok (.iconst 4, 1) := by decide +kernel
theorem dX6_layLoads_9 : decode cX6_layLoads 9 = .ok (.if_icmp .ge 177, 3) := by decide +kernel
theorem dX6_layLoads_12 : decode cX6_layLoads 12 = .ok (.lconst 0, 1) := by decide +kernel
theorem dX6_layLoads_13 : decode cX6_layLoads 13 = .ok (.lstore_n 2, 1) := by decide +kernel
theorem dX6_layLoads_14 : decode cX6_layLoads 14 = .ok (.iconst 0, 1) := by decide +kernel
theorem dX6_layLoads_15 : decode cX6_layLoads 15 = .ok (.istore 4, 2) := by decide +kernel
theorem dX6_layLoads_17 : decode cX6_layLoads 17 = .ok (.iload 4, 2) := by decide +kernel
theorem dX6_layLoads_19 : decode cX6_layLoads 19 = .ok (.iload_n 1, 1) := by decide +kernel
theorem dX6_layLoads_20 : decode cX6_layLoads 20 = .ok (.if_icmp .ge 28, 3) := by decide +kernel
theorem dX6_layLoads_23 : decode cX6_layLoads 23 = .ok (.lload_n 2, 1) := by decide +kernel
theorem dX6_layLoads_24 : decode cX6_layLoads 24 = .ok (.aload_n 0, 1) := by decide +kernel
theorem dX6_layLoads_25 : decode cX6_layLoads 25 = .ok (.getfield 23, 3) := by decide +kernel
theorem dX6_layLoads_28 : decode cX6_layLoads 28 = .ok (.iload 4, 2) := by decide +kernel
theorem dX6_layLoads_30 : decode cX6_layLoads 30 = .ok (.laload, 1) := by decide +kernel
theorem dX6_layLoads_31 : decode cX6_layLoads 31 = .ok (.aload_n 0, 1) := by decide +kernel
theorem dX6_layLoads_32 : decode cX6_layLoads 32 = .ok (.iload 4, 2) := by decide +kernel
theorem dX6_layLoads_34 : decode cX6_layLoads 34 = .ok (.iload_n 1, 1) := by decide +kernel
theorem dX6_layLoads_35 : decode cX6_layLoads 35 = .ok (.invokevirtual 38, 3) := by decide +kernel
theorem dX6_layLoads_38 : decode cX6_layLoads 38 = .ok (.i2l, 1) := by decide +kernel
theorem dX6_layLoads_39 : decode cX6_layLoads 39 = .ok (.lmul, 1) := by decide +kernel
theorem dX6_layLoads_40 : decode cX6_layLoads 40 = .ok (.ladd, 1) := by decide +kernel
theorem dX6_layLoads_41 : decode cX6_layLoads 41 = .ok (.lstore_n 2, 1) := by decide +kernel
theorem dX6_layLoads_42 : decode cX6_layLoads 42 = .ok (.iinc 4 1, 3) := by decide +kernel
theorem dX6_layLoads_45 : decode cX6_layLoads 45 = .ok (.goto (-28), 3) := by decide +kernel
theorem dX6_layLoads_48 : decode cX6_layLoads 48 = .ok (.bipush 100, 2) := by decide +kernel
theorem dX6_layLoads_50 : decode cX6_layLoads 50 = .ok (.aload_n 0, 1) := by decide +kernel
theorem dX6_layLoads_51 : decode cX6_layLoads 51 = .ok (.iload_n 1, 1) := by decide +kernel
theorem dX6_layLoads_52 : decode cX6_layLoads 52 = .ok (.iload_n 1, 1) := by decide +kernel
theorem dX6_layLoads_53 : decode cX6_layLoads 53 = .ok (.invokevirtual 38, 3) := by decide +kernel
theorem dX6_layLoads_56 : decode cX6_layLoads 56 = .ok (.aload_n 0, 1) := by decide +kernel
theorem dX6_layLoads_57 : decode cX6_layLoads 57 = .ok (.getfield 20, 3) := by decide +kernel
theorem dX6_layLoads_60 : decode cX6_layLoads 60 = .ok (.iload_n 1, 1) := by decide +kernel
theorem dX6_layLoads_61 : decode cX6_layLoads 61 = .ok (.iaload, 1) := by decide +kernel
theorem dX6_layLoads_62 : decode cX6_layLoads 62 = .ok (.imul, 1) := by decide +kernel
theorem dX6_layLoads_63 : decode cX6_layLoads 63 = .ok (.isub, 1) := by decide +kernel
theorem dX6_layLoads_64 : decode cX6_layLoads 64 = .ok (.istore 4, 2) := by decide +kernel
theorem dX6_layLoads_66 : decode cX6_layLoads 66 = .ok (.ldc2_w 49, 3) := by decide +kernel
theorem dX6_layLoads_69 : decode cX6_layLoads 69 = .ok (.aload_n 0, 1) := by decide +kernel
theorem dX6_layLoads_70 : decode cX6_layLoads 70 = .ok (.getfield 7, 3) := by decide +kernel
theorem dX6_layLoads_73 : decode cX6_layLoads 73 = .ok (.bipush 24, 2) := by decide +kernel
theorem dX6_layLoads_75 : decode cX6_layLoads 75 = .ok (.iload_n 1, 1) := by decide +kernel
theorem dX6_layLoads_76 : decode cX6_layLoads 76 = .ok (.iadd, 1) := by decide +kernel
theorem dX6_layLoads_77 : decode cX6_layLoads 77 = .ok (.iaload, 1) := by decide +kernel
theorem dX6_layLoads_78 : decode cX6_layLoads 78 = .ok (.i2l, 1) := by decide +kernel
theorem dX6_layLoads_79 : decode cX6_layLoads 79 = .ok (.lmul, 1) := by decide +kernel
theorem dX6_layLoads_80 : decode cX6_layLoads 80 = .ok (.aload_n 0, 1) := by decide +kernel
theorem dX6_layLoads_81 : decode cX6_layLoads 81 = .ok (.getfield 45, 3) := by decide +kernel
theorem dX6_layLoads_84 : decode cX6_layLoads 84 = .ok (.lmul, 1) := by decide +kernel
theorem dX6_layLoads_85 : decode cX6_layLoads 85 = .ok (.aload_n 0, 1) := by decide +kernel
theorem dX6_layLoads_86 : decode cX6_layLoads 86 = .ok (.getfield 20, 3) := by decide +kernel
theorem dX6_layLoads_89 : decode cX6_layLoads 89 = .ok (.iload_n 1, 1) := by decide +kernel
theorem dX6_layLoads_90 : decode cX6_layLoads 90 = .ok (.iaload, 1) := by decide +kernel
theorem dX6_layLoads_91 : decode cX6_layLoads 91 = .ok (.i2l, 1) := by decide +kernel
theorem dX6_layLoads_92 : decode cX6_layLoads 92 = .ok (.lload_n 2, 1) := by decide +kernel
theorem dX6_layLoads_93 : decode cX6_layLoads 93 = .ok (.lmul, 1) := by decide +kernel
theorem dX6_layLoads_94 : decode cX6_layLoads 94 = .ok (.ladd, 1) := by decide +kernel
theorem dX6_layLoads_95 : decode cX6_layLoads 95 = .ok (.lstore 5, 2) := by decide +kernel
theorem dX6_layLoads_97 : decode cX6_layLoads 97 = .ok (.iload 4, 2) := by decide +kernel
theorem dX6_layLoads_99 : decode cX6_layLoads 99 = .ok (.ifCond .ne 33, 3) := by decide +kernel
theorem dX6_layLoads_102 : decode cX6_layLoads 102 = .ok (.aload_n 0, 1) := by decide +kernel
theorem dX6_layLoads_103 : decode cX6_layLoads 103 = .ok (.getfield 7, 3) := by decide +kernel
theorem dX6_layLoads_106 : decode cX6_layLoads 106 = .ok (.bipush 24, 2) := by decide +kernel
theorem dX6_layLoads_108 : decode cX6_layLoads 108 = .ok (.iload_n 1, 1) := by decide +kernel
theorem dX6_layLoads_109 : decode cX6_layLoads 109 = .ok (.iadd, 1) := by decide +kernel
theorem dX6_layLoads_110 : decode cX6_layLoads 110 = .ok (.iaload, 1) := by decide +kernel
theorem dX6_layLoads_111 : decode cX6_layLoads 111 = .ok (.ifCond .gt 9, 3) := by decide +kernel
theorem dX6_layLoads_114 : decode cX6_layLoads 114 = .ok (.lload_n 2, 1) := by decide +kernel
theorem dX6_layLoads_115 : decode cX6_layLoads 115 = .ok (.lconst 0, 1) := by decide +kernel
theorem dX6_layLoads_116 : decode cX6_layLoads 116 = .ok (.lcmp, 1) := by decide +kernel
theorem dX6_layLoads_117 : decode cX6_layLoads 117 = .ok (.ifCond .le 5, 3) := by decide +kernel
theorem dX6_layLoads_120 : decode cX6_layLoads 120 = .ok (.iconst 0, 1) := by decide +kernel
theorem dX6_layLoads_121 : decode cX6_layLoads 121 = .ok (.ireturn, 1) := by decide +kernel
theorem dX6_layLoads_122 : decode cX6_layLoads 122 = .ok (.aload_n 0, 1) := by decide +kernel
theorem dX6_layLoads_123 : decode cX6_layLoads 123 = .ok (.getfield 23, 3) := by decide +kernel
theorem dX6_layLoads_126 : decode cX6_layLoads 126 = .ok (.iload_n 1, 1) := by decide +kernel
theorem dX6_layLoads_127 : decode cX6_layLoads 127 = .ok (.lconst 0, 1) := by decide +kernel
theorem dX6_layLoads_128 : decode cX6_layLoads 128 = .ok (.lastore, 1) := by decide +kernel
theorem dX6_layLoads_129 : decode cX6_layLoads 129 = .ok (.goto 51, 3) := by decide +kernel
theorem dX6_layLoads_132 : decode cX6_layLoads 132 = .ok (.iconst 0, 1) := by decide +kernel
theorem dX6_layLoads_133 : decode cX6_layLoads 133 = .ok (.istore 7, 2) := by decide +kernel
theorem dX6_layLoads_135 : decode cX6_layLoads 135 = .ok (.iload 7, 2) := by decide +kernel
theorem dX6_layLoads_137 : decode cX6_layLoads 137 = .ok (.iload_n 1, 1) := by decide +kernel
theorem dX6_layLoads_138 : decode cX6_layLoads 138 = .ok (.if_icmp .ge 22, 3) := by decide +kernel
theorem dX6_layLoads_141 : decode cX6_layLoads 141 = .ok (.aload_n 0, 1) := by decide +kernel
theorem dX6_layLoads_142 : decode cX6_layLoads 142 = .ok (.getfield 23, 3) := by decide +kernel
theorem dX6_layLoads_145 : decode cX6_layLoads 145 = .ok (.iload 7, 2) := by decide +kernel
theorem dX6_layLoads_147 : decode cX6_layLoads 147 = .ok (.dup2, 1) := by decide +kernel
theorem dX6_layLoads_148 : decode cX6_layLoads 148 = .ok (.laload, 1) := by decide +kernel
theorem dX6_layLoads_149 : decode cX6_layLoads 149 = .ok (.iload 4, 2) := by decide +kernel
theorem dX6_layLoads_151 : decode cX6_layLoads 151 = .ok (.i2l, 1) := by decide +kernel
theorem dX6_layLoads_152 : decode cX6_layLoads 152 = .ok (.lmul, 1) := by decide +kernel
theorem dX6_layLoads_153 : decode cX6_layLoads 153 = .ok (.lastore, 1) := by decide +kernel
theorem dX6_layLoads_154 : decode cX6_layLoads 154 = .ok (.iinc 7 1, 3) := by decide +kernel
theorem dX6_layLoads_157 : decode cX6_layLoads 157 = .ok (.goto (-22), 3) := by decide +kernel
theorem dX6_layLoads_160 : decode cX6_layLoads 160 = .ok (.aload_n 0, 1) := by decide +kernel
theorem dX6_layLoads_161 : decode cX6_layLoads 161 = .ok (.getfield 23, 3) := by decide +kernel
theorem dX6_layLoads_164 : decode cX6_layLoads 164 = .ok (.iload_n 1, 1) := by decide +kernel
theorem dX6_layLoads_165 : decode cX6_layLoads 165 = .ok (.lload 5, 2) := by decide +kernel
theorem dX6_layLoads_167 : decode cX6_layLoads 167 = .ok (.lastore, 1) := by decide +kernel
theorem dX6_layLoads_168 : decode cX6_layLoads 168 = .ok (.aload_n 0, 1) := by decide +kernel
theorem dX6_layLoads_169 : decode cX6_layLoads 169 = .ok (.dup, 1) := by decide +kernel
theorem dX6_layLoads_170 : decode cX6_layLoads 170 = .ok (.getfield 45, 3) := by decide +kernel
theorem dX6_layLoads_173 : decode cX6_layLoads 173 = .ok (.iload 4, 2) := by decide +kernel
theorem dX6_layLoads_175 : decode cX6_layLoads 175 = .ok (.i2l, 1) := by decide +kernel
theorem dX6_layLoads_176 : decode cX6_layLoads 176 = .ok (.lmul, 1) := by decide +kernel
theorem dX6_layLoads_177 : decode cX6_layLoads 177 = .ok (.putfield 45, 3) := by decide +kernel
theorem dX6_layLoads_180 : decode cX6_layLoads 180 = .ok (.iinc 1 1, 3) := by decide +kernel
theorem dX6_layLoads_183 : decode cX6_layLoads 183 = .ok (.goto (-176), 3) := by decide +kernel
theorem dX6_layLoads_186 : decode cX6_layLoads 186 = .ok (.iconst 1, 1) := by decide +kernel
theorem dX6_layLoads_187 : decode cX6_layLoads 187 = .ok (.ireturn, 1) := by decide +kernel
theorem dX6_part_0 : decode cX6_part 0 = .ok (.lload_n 0, 1) := by decide +kernel
theorem dX6_part_1 : decode cX6_part 1 = .ok (.lconst 0, 1) := by decide +kernel
theorem dX6_part_2 : decode cX6_part 2 = .ok (.lcmp, 1) := by decide +kernel
theorem dX6_part_3 : decode cX6_part 3 = .ok (.ifCond .ge 8, 3) := by decide +kernel
theorem dX6_part_6 : decode cX6_part 6 = .ok (.lload_n 0, 1) := by decide +kernel
theorem dX6_part_7 : decode cX6_part 7 = .ok (.lneg, 1) := by decide +kernel
theorem dX6_part_8 : decode cX6_part 8 = .ok (.goto 4, 3) := by decide +kernel
theorem dX6_part_11 : decode cX6_part 11 = .ok (.lload_n 0, 1) := by decide +kernel
theorem dX6_part_12 : decode cX6_part 12 = .ok (.lstore 5, 2) := by decide +kernel
theorem dX6_part_14 : decode cX6_part 14 = .ok (.lload_n 2, 1) := by decide +kernel
theorem dX6_part_15 : decode cX6_part 15 = .ok (.lstore 7, 2) := by decide +kernel
theorem dX6_part_17 : decode cX6_part 17 = .ok (.lload 7, 2) := by decide +kernel
theorem dX6_part_19 : decode cX6_part 19 = .ok (.lconst 0, 1) := by decide +kernel
theorem dX6_part_20 : decode cX6_part 20 = .ok (.lcmp, 1) := by decide +kernel
theorem dX6_part_21 : decode cX6_part 21 = .ok (.ifCond .eq 21, 3) := by decide +kernel
theorem dX6_part_24 : decode cX6_part 24 = .ok (.lload 5, 2) := by decide +kernel
theorem dX6_part_26 : decode cX6_part 26 = .ok (.lload 7, 2) := by decide +kernel
theorem dX6_part_28 : decode cX6_part 28 = .ok (.lrem, 1) := by decide +kernel
theorem dX6_part_29 : decode cX6_part 29 = .ok (.lstore 9, 2) := by decide +kernel
theorem dX6_part_31 : decode cX6_part 31 = .ok (.lload 7, 2) := by decide +kernel
theorem dX6_part_33 : decode cX6_part 33 = .ok (.lstore 5, 2) := by decide +kernel
theorem dX6_part_35 : decode cX6_part 35 = .ok (.lload 9, 2) := by decide +kernel
theorem dX6_part_37 : decode cX6_part 37 = .ok (.lstore 7, 2) := by decide +kernel
theorem dX6_part_39 : decode cX6_part 39 = .ok (.goto (-22), 3) := by decide +kernel
theorem dX6_part_42 : decode cX6_part 42 = .ok (.iload 4, 2) := by decide +kernel
theorem dX6_part_44 : decode cX6_part 44 = .ok (.ifCond .ne 10, 3) := by decide +kernel
theorem dX6_part_47 : decode cX6_part 47 = .ok (.lload_n 0, 1) := by decide +kernel
theorem dX6_part_48 : decode cX6_part 48 = .ok (.lload 5, 2) := by decide +kernel
theorem dX6_part_50 : decode cX6_part 50 = .ok (.ldiv, 1) := by decide +kernel
theorem dX6_part_51 : decode cX6_part 51 = .ok (.goto 7, 3) := by decide +kernel
theorem dX6_part_54 : decode cX6_part 54 = .ok (.lload_n 2, 1) := by decide +kernel
theorem dX6_part_55 : decode cX6_part 55 = .ok (.lload 5, 2) := by decide +kernel
theorem dX6_part_57 : decode cX6_part 57 = .ok (.ldiv, 1) := by decide +kernel
theorem dX6_part_58 : decode cX6_part 58 = .ok (.lreturn, 1) := by decide +kernel
theorem dX6_isPart_0 : decode cX6_isPart 0 = .ok (.iload_n 0, 1) := by decide +kernel
theorem dX6_isPart_1 : decode cX6_isPart 1 = .ok (.iconst 0, 1) := by decide +kernel
theorem dX6_isPart_2 : decode cX6_isPart 2 = .ok (.iconst 1, 1) := by decide +kernel
theorem dX6_isPart_3 : decode cX6_isPart 3 = .ok (.invokestatic 30, 3) := by decide +kernel
theorem dX6_isPart_6 : decode cX6_isPart 6 = .ok (.ireturn, 1) := by decide +kernel
theorem dX6_wrongSteady_0 : decode cX6_wrongSteady 0 = .ok (.iload_n 1, 1) := by decide +kernel
theorem dX6_wrongSteady_1 : decode cX6_wrongSteady 1 = .ok (.invokestatic 34, 3) := by decide +kernel
theorem dX6_wrongSteady_4 : decode cX6_wrongSteady 4 = .ok (.ifCond .ne 5, 3) := by decide +kernel
theorem dX6_wrongSteady_7 : decode cX6_wrongSteady 7 = .ok (.iconst (-1), 1) := by decide +kernel
theorem dX6_wrongSteady_8 : decode cX6_wrongSteady 8 = .ok (.ireturn, 1) := by decide +kernel
theorem dX6_wrongSteady_9 : decode cX6_wrongSteady 9 = .ok (.iload_n 2, 1) := by decide +kernel
theorem dX6_wrongSteady_10 : decode cX6_wrongSteady 10 = .ok (.invokestatic 51, 3) := by decide +kernel
theorem dX6_wrongSteady_13 : decode cX6_wrongSteady 13 = .ok (.ifCond .ne 6, 3) := by decide +kernel
theorem dX6_wrongSteady_16 : decode cX6_wrongSteady 16 = .ok (.bipush (-3), 2) := by decide +kernel
theorem dX6_wrongSteady_18 : decode cX6_wrongSteady 18 = .ok (.ireturn, 1) := by decide +kernel
theorem dX6_wrongSteady_19 : decode cX6_wrongSteady 19 = .ok (.aload_n 0, 1) := by decide +kernel
theorem dX6_wrongSteady_20 : decode cX6_wrongSteady 20 = .ok (.invokevirtual 54, 3) := by decide +kernel
theorem dX6_wrongSteady_23 : decode cX6_wrongSteady 23 = .ok (.aload_n 0, 1) := by decide +kernel
theorem dX6_wrongSteady_24 : decode cX6_wrongSteady 24 = .ok (.invokevirtual 57, 3) := by decide +kernel
theorem dX6_wrongSteady_27 : decode cX6_wrongSteady 27 = .ok (.ifCond .eq 7, 3) := by decide +kernel
theorem dX6_wrongSteady_30 : decode cX6_wrongSteady 30 = .ok (.iconst 0, 1) := by decide +kernel
theorem dX6_wrongSteady_31 : decode cX6_wrongSteady 31 = .ok (.goto 5, 3) := by decide +kernel
theorem dX6_wrongSteady_34 : decode cX6_wrongSteady 34 = .ok (.bipush (-5), 2) := by decide +kernel
theorem dX6_wrongSteady_36 : decode cX6_wrongSteady 36 = .ok (.ireturn, 1) := by decide +kernel
theorem dX6_load_0 : decode cX6_load 0 = .ok (.aload_n 0, 1) := by decide +kernel
theorem dX6_load_1 : decode cX6_load 1 = .ok (.iload_n 1, 1) := by decide +kernel
theorem dX6_load_2 : decode cX6_load 2 = .ok (.iload_n 2, 1) := by decide +kernel
theorem dX6_load_3 : decode cX6_load 3 = .ok (.invokevirtual 61, 3) := by decide +kernel
theorem dX6_load_6 : decode cX6_load 6 = .ok (.istore_n 3, 1) := by decide +kernel
theorem dX6_load_7 : decode cX6_load 7 = .ok (.iload_n 3, 1) := by decide +kernel
theorem dX6_load_8 : decode cX6_load 8 = .ok (.ifCond .eq 8, 3) := by decide +kernel
theorem dX6_load_11 : decode cX6_load 11 = .ok (.iload_n 3, 1) := by decide +kernel
theorem dX6_load_12 : decode cX6_load 12 = .ok (.i2l, 1) := by decide +kernel
theorem dX6_load_13 : decode cX6_load 13 = .ok (.goto 17, 3) := by decide +kernel
theorem dX6_load_16 : decode cX6_load 16 = .ok (.aload_n 0, 1) := by decide +kernel
theorem dX6_load_17 : decode cX6_load 17 = .ok (.getfield 23, 3) := by decide +kernel
theorem dX6_load_20 : decode cX6_load 20 = .ok (.iload_n 1, 1) := by decide +kernel
theorem dX6_load_21 : decode cX6_load 21 = .ok (.laload, 1) := by decide +kernel
theorem dX6_load_22 : decode cX6_load 22 = .ok (.aload_n 0, 1) := by decide +kernel
theorem dX6_load_23 : decode cX6_load 23 = .ok (.getfield 45, 3) := by decide +kernel
theorem dX6_load_26 : decode cX6_load 26 = .ok (.iload_n 2, 1) := by decide +kernel
theorem dX6_load_27 : decode cX6_load 27 = .ok (.invokestatic 64, 3) := by decide +kernel
theorem dX6_load_30 : decode cX6_load 30 = .ok (.lreturn, 1) := by decide +kernel
theorem dX6_product_0 : decode cX6_product 0 = .ok (.aload_n 0, 1) := by decide +kernel
theorem dX6_product_1 : decode cX6_product 1 = .ok (.iload_n 1, 1) := by decide +kernel
theorem dX6_product_2 : decode cX6_product 2 = .ok (.iload_n 2, 1) := by decide +kernel
theorem dX6_product_3 : decode cX6_product 3 = .ok (.invokevirtual 61, 3) := by decide +kernel
theorem dX6_product_6 : decode cX6_product 6 = .ok (.istore_n 3, 1) := by decide +kernel
theorem dX6_product_7 : decode cX6_product 7 = .ok (.iload_n 3, 1) := by decide +kernel
theorem dX6_product_8 : decode cX6_product 8 = .ok (.ifCond .eq 6, 3) := by decide +kernel
theorem dX6_product_11 : decode cX6_product 11 = .ok (.iload_n 3, 1) := by decide +kernel
theorem dX6_product_12 : decode cX6_product 12 = .ok (.i2l, 1) := by decide +kernel
theorem dX6_product_13 : decode cX6_product 13 = .ok (.lreturn, 1) := by decide +kernel
theorem dX6_product_14 : decode cX6_product 14 = .ok (.lconst 0, 1) := by decide +kernel
theorem dX6_product_15 : decode cX6_product 15 = .ok (.lstore 4, 2) := by decide +kernel
theorem dX6_product_17 : decode cX6_product 17 = .ok (.iconst 0, 1) := by decide +kernel
theorem dX6_product_18 : decode cX6_product 18 = .ok (.istore 6, 2) := by decide +kernel
theorem dX6_product_20 : decode cX6_product 20 = .ok (.iload 6, 2) := by decide +kernel
theorem dX6_product_22 : decode cX6_product 22 = .ok (.iload_n 1, 1) := by decide +kernel
theorem dX6_product_23 : decode cX6_product 23 = .ok (.if_icmp .gt 30, 3) := by decide +kernel
theorem dX6_product_26 : decode cX6_product 26 = .ok (.lload 4, 2) := by decide +kernel
theorem dX6_product_28 : decode cX6_product 28 = .ok (.aload_n 0, 1) := by decide +kernel
theorem dX6_product_29 : decode cX6_product 29 = .ok (.getfield 23, 3) := by decide +kernel
theorem dX6_product_32 : decode cX6_product 32 = .ok (.iload 6, 2) := by decide +kernel
theorem dX6_product_34 : decode cX6_product 34 = .ok (.laload, 1) := by decide +kernel
theorem dX6_product_35 : decode cX6_product 35 = .ok (.aload_n 0, 1) := by decide +kernel
theorem dX6_product_36 : decode cX6_product 36 = .ok (.iload 6, 2) := by decide +kernel
theorem dX6_product_38 : decode cX6_product 38 = .ok (.iload_n 1, 1) := by decide +kernel
theorem dX6_product_39 : decode cX6_product 39 = .ok (.invokevirtual 38, 3) := by decide +kernel
theorem dX6_product_42 : decode cX6_product 42 = .ok (.i2l, 1) := by decide +kernel
theorem dX6_product_43 : decode cX6_product 43 = .ok (.lmul, 1) := by decide +kernel
theorem dX6_product_44 : decode cX6_product 44 = .ok (.ladd, 1) := by decide +kernel
theorem dX6_product_45 : decode cX6_product 45 = .ok (.lstore 4, 2) := by decide +kernel
theorem dX6_product_47 : decode cX6_product 47 = .ok (.iinc 6 1, 3) := by decide +kernel
theorem dX6_product_50 : decode cX6_product 50 = .ok (.goto (-30), 3) := by decide +kernel
theorem dX6_product_53 : decode cX6_product 53 = .ok (.lload 4, 2) := by decide +kernel
theorem dX6_product_55 : decode cX6_product 55 = .ok (.bipush 10, 2) := by decide +kernel
theorem dX6_product_57 : decode cX6_product 57 = .ok (.aload_n 0, 1) := by decide +kernel
theorem dX6_product_58 : decode cX6_product 58 = .ok (.getfield 20, 3) := by decide +kernel
theorem dX6_product_61 : decode cX6_product 61 = .ok (.iload_n 1, 1) := by decide +kernel
theorem dX6_product_62 : decode cX6_product 62 = .ok (.iaload, 1) := by decide +kernel
theorem dX6_product_63 : decode cX6_product 63 = .ok (.isub, 1) := by decide +kernel
theorem dX6_product_64 : decode cX6_product 64 = .ok (.i2l, 1) := by decide +kernel
theorem dX6_product_65 : decode cX6_product 65 = .ok (.lmul, 1) := by decide +kernel
theorem dX6_product_66 : decode cX6_product 66 = .ok (.ldc2_w 49, 3) := by decide +kernel
theorem dX6_product_69 : decode cX6_product 69 = .ok (.aload_n 0, 1) := by decide +kernel
theorem dX6_product_70 : decode cX6_product 70 = .ok (.getfield 45, 3) := by decide +kernel
theorem dX6_product_73 : decode cX6_product 73 = .ok (.lmul, 1) := by decide +kernel
theorem dX6_product_74 : decode cX6_product 74 = .ok (.iload_n 2, 1) := by decide +kernel
theorem dX6_product_75 : decode cX6_product 75 = .ok (.invokestatic 64, 3) := by decide +kernel
theorem dX6_product_78 : decode cX6_product 78 = .ok (.lreturn, 1) := by decide +kernel
theorem dX6_circulatingLoad_0 : decode cX6_circulatingLoad 0 = .ok (.aload_n 0, 1) := by decide +kernel
theorem dX6_circulatingLoad_1 : decode cX6_circulatingLoad 1 = .ok (.iconst 0, 1) := by decide +kernel
theorem dX6_circulatingLoad_2 : decode cX6_circulatingLoad 2 = .ok (.iload_n 1, 1) := by decide +kernel
theorem dX6_circulatingLoad_3 : decode cX6_circulatingLoad 3 = .ok (.invokevirtual 61, 3) := by decide +kernel
theorem dX6_circulatingLoad_6 : decode cX6_circulatingLoad 6 = .ok (.istore_n 2, 1) := by decide +kernel
theorem dX6_circulatingLoad_7 : decode cX6_circulatingLoad 7 = .ok (.iload_n 2, 1) := by decide +kernel
theorem dX6_circulatingLoad_8 : decode cX6_circulatingLoad 8 = .ok (.ifCond .eq 6, 3) := by decide +kernel
theorem dX6_circulatingLoad_11 : decode cX6_circulatingLoad 11 = .ok (.iload_n 2, 1) := by decide +kernel
theorem dX6_circulatingLoad_12 : decode cX6_circulatingLoad 12 = .ok (.i2l, 1) := by decide +kernel
theorem dX6_circulatingLoad_13 : decode cX6_circulatingLoad 13 = .ok (.lreturn, 1) := by decide +kernel
theorem dX6_circulatingLoad_14 : decode cX6_circulatingLoad 14 = .ok (.lconst 0, 1) := by decide +kernel
theorem dX6_circulatingLoad_15 : decode cX6_circulatingLoad 15 = .ok (.lstore_n 3, 1) := by decide +kernel
theorem dX6_circulatingLoad_16 : decode cX6_circulatingLoad 16 = .ok (.lconst 0, 1) := by decide +kernel
theorem dX6_circulatingLoad_17 : decode cX6_circulatingLoad 17 = .ok (.lstore 5, 2) := by decide +kernel
theorem dX6_circulatingLoad_19 : decode cX6_circulatingLoad 19 = .ok (.iconst 0, 1) := by decide +kernel
theorem dX6_circulatingLoad_20 : decode cX6_circulatingLoad 20 = .ok (.istore 7, 2) := by decide +kernel
theorem dX6_circulatingLoad_22 : decode cX6_circulatingLoad 22 = .ok (.iload 7, 2) := by decide +kernel
theorem dX6_circulatingLoad_24 : decode cX6_circulatingLoad 24 = .ok (.iconst 4, 1) := by decide +kernel
theorem dX6_circulatingLoad_25 : decode cX6_circulatingLoad 25 = .ok (.if_icmp .ge 35, 3) := by decide +kernel
theorem dX6_circulatingLoad_28 : decode cX6_circulatingLoad 28 = .ok (.lload_n 3, 1) := by decide +kernel
theorem dX6_circulatingLoad_29 : decode cX6_circulatingLoad 29 = .ok (.aload_n 0, 1) := by decide +kernel
theorem dX6_circulatingLoad_30 : decode cX6_circulatingLoad 30 = .ok (.getfield 23, 3) := by decide +kernel
theorem dX6_circulatingLoad_33 : decode cX6_circulatingLoad 33 = .ok (.iload 7, 2) := by decide +kernel
theorem dX6_circulatingLoad_35 : decode cX6_circulatingLoad 35 = .ok (.laload, 1) := by decide +kernel
theorem dX6_circulatingLoad_36 : decode cX6_circulatingLoad 36 = .ok (.ladd, 1) := by decide +kernel
theorem dX6_circulatingLoad_37 : decode cX6_circulatingLoad 37 = .ok (.lstore_n 3, 1) := by decide +kernel
theorem dX6_circulatingLoad_38 : decode cX6_circulatingLoad 38 = .ok (.lload 5, 2) := by decide +kernel
theorem dX6_circulatingLoad_40 : decode cX6_circulatingLoad 40 = .ok (.aload_n 0, 1) := by decide +kernel
theorem dX6_circulatingLoad_41 : decode cX6_circulatingLoad 41 = .ok (.getfield 7, 3) := by decide +kernel
theorem dX6_circulatingLoad_44 : decode cX6_circulatingLoad 44 = .ok (.bipush 24, 2) := by decide +kernel
theorem dX6_circulatingLoad_46 : decode cX6_circulatingLoad 46 = .ok (.iload 7, 2) := by decide +kernel
theorem dX6_circulatingLoad_48 : decode cX6_circulatingLoad 48 = .ok (.iadd, 1) := by decide +kernel
theorem dX6_circulatingLoad_49 : decode cX6_circulatingLoad 49 = .ok (.iaload, 1) := by decide +kernel
theorem dX6_circulatingLoad_50 : decode cX6_circulatingLoad 50 = .ok (.i2l, 1) := by decide +kernel
theorem dX6_circulatingLoad_51 : decode cX6_circulatingLoad 51 = .ok (.ladd, 1) := by decide +kernel
theorem dX6_circulatingLoad_52 : decode cX6_circulatingLoad 52 = .ok (.lstore 5, 2) := by decide +kernel
theorem dX6_circulatingLoad_54 : decode cX6_circulatingLoad 54 = .ok (.iinc 7 1, 3) := by decide +kernel
theorem dX6_circulatingLoad_57 : decode cX6_circulatingLoad 57 = .ok (.goto (-35), 3) := by decide +kernel
theorem dX6_circulatingLoad_60 : decode cX6_circulatingLoad 60 = .ok (.lload 5, 2) := by decide +kernel
theorem dX6_circulatingLoad_62 : decode cX6_circulatingLoad 62 = .ok (.lconst 0, 1) := by decide +kernel
theorem dX6_circulatingLoad_63 : decode cX6_circulatingLoad 63 = .ok (.lcmp, 1) := by decide +kernel
theorem dX6_circulatingLoad_64 : decode cX6_circulatingLoad 64 = .ok (.ifCond .ne 9, 3) := by decide +kernel
theorem dX6_circulatingLoad_67 : decode cX6_circulatingLoad 67 = .ok (.ldc2_w 68, 3) := by decide +kernel
theorem dX6_circulatingLoad_70 : decode cX6_circulatingLoad 70 = .ok (.goto 23, 3) := by decide +kernel
theorem dX6_circulatingLoad_73 : decode cX6_circulatingLoad 73 = .ok (.lload_n 3, 1) := by decide +kernel
theorem dX6_circulatingLoad_74 : decode cX6_circulatingLoad 74 = .ok (.lload 5, 2) := by decide +kernel
theorem dX6_circulatingLoad_76 : decode cX6_circulatingLoad 76 = .ok (.aload_n 0, 1) := by decide +kernel
theorem dX6_circulatingLoad_77 : decode cX6_circulatingLoad 77 = .ok (.getfield 45, 3) := by decide +kernel
theorem dX6_circulatingLoad_80 : decode cX6_circulatingLoad 80 = .ok (.lmul, 1) := by decide +kernel
theorem dX6_circulatingLoad_81 : decode cX6_circulatingLoad 81 = .ok (.lsub, 1) := by decide +kernel
theorem dX6_circulatingLoad_82 : decode cX6_circulatingLoad 82 = .ok (.lload 5, 2) := by decide +kernel
theorem dX6_circulatingLoad_84 : decode cX6_circulatingLoad 84 = .ok (.aload_n 0, 1) := by decide +kernel
theorem dX6_circulatingLoad_85 : decode cX6_circulatingLoad 85 = .ok (.getfield 45, 3) := by decide +kernel
theorem dX6_circulatingLoad_88 : decode cX6_circulatingLoad 88 = .ok (.lmul, 1) := by decide +kernel
theorem dX6_circulatingLoad_89 : decode cX6_circulatingLoad 89 = .ok (.iload_n 1, 1) := by decide +kernel
theorem dX6_circulatingLoad_90 : decode cX6_circulatingLoad 90 = .ok (.invokestatic 64, 3) := by decide +kernel
theorem dX6_circulatingLoad_93 : decode cX6_circulatingLoad 93 = .ok (.lreturn, 1) := by decide +kernel
theorem dX6_powerOf_0 : decode cX6_powerOf 0 = .ok (.lconst 0, 1) := by decide +kernel
theorem dX6_powerOf_1 : decode cX6_powerOf 1 = .ok (.lstore_n 1, 1) := by decide +kernel
theorem dX6_powerOf_2 : decode cX6_powerOf 2 = .ok (.iconst 0, 1) := by decide +kernel
theorem dX6_powerOf_3 : decode cX6_powerOf 3 = .ok (.istore_n 3, 1) := by decide +kernel
theorem dX6_powerOf_4 : decode cX6_powerOf 4 = .ok (.iload_n 3, 1) := by decide +kernel
theorem dX6_powerOf_5 : decode cX6_powerOf 5 = .ok (.iconst 4, 1) := by decide +kernel
theorem dX6_powerOf_6 : decode cX6_powerOf 6 = .ok (.if_icmp .ge 29, 3) := by decide +kernel
theorem dX6_powerOf_9 : decode cX6_powerOf 9 = .ok (.lload_n 1, 1) := by decide +kernel
theorem dX6_powerOf_10 : decode cX6_powerOf 10 = .ok (.aload_n 0, 1) := by decide +kernel
theorem dX6_powerOf_11 : decode cX6_powerOf 11 = .ok (.getfield 7, 3) := by decide +kernel
theorem dX6_powerOf_14 : decode cX6_powerOf 14 = .ok (.bipush 20, 2) := by decide +kernel
theorem dX6_powerOf_16 : decode cX6_powerOf 16 = .ok (.iload_n 3, 1) := by decide +kernel
theorem dX6_powerOf_17 : decode cX6_powerOf 17 = .ok (.iadd, 1) := by decide +kernel
theorem dX6_powerOf_18 : decode cX6_powerOf 18 = .ok (.iaload, 1) := by decide +kernel
theorem dX6_powerOf_19 : decode cX6_powerOf 19 = .ok (.i2l, 1) := by decide +kernel
theorem dX6_powerOf_20 : decode cX6_powerOf 20 = .ok (.aload_n 0, 1) := by decide +kernel
theorem dX6_powerOf_21 : decode cX6_powerOf 21 = .ok (.getfield 23, 3) := by decide +kernel
theorem dX6_powerOf_24 : decode cX6_powerOf 24 = .ok (.iload_n 3, 1) := by decide +kernel
theorem dX6_powerOf_25 : decode cX6_powerOf 25 = .ok (.laload, 1) := by decide +kernel
theorem dX6_powerOf_26 : decode cX6_powerOf 26 = .ok (.lmul, 1) := by decide +kernel
theorem dX6_powerOf_27 : decode cX6_powerOf 27 = .ok (.ladd, 1) := by decide +kernel
theorem dX6_powerOf_28 : decode cX6_powerOf 28 = .ok (.lstore_n 1, 1) := by decide +kernel
theorem dX6_powerOf_29 : decode cX6_powerOf 29 = .ok (.iinc 3 1, 3) := by decide +kernel
theorem dX6_powerOf_32 : decode cX6_powerOf 32 = .ok (.goto (-28), 3) := by decide +kernel
theorem dX6_powerOf_35 : decode cX6_powerOf 35 = .ok (.lload_n 1, 1) := by decide +kernel
theorem dX6_powerOf_36 : decode cX6_powerOf 36 = .ok (.lreturn, 1) := by decide +kernel
theorem dX6_power_0 : decode cX6_power 0 = .ok (.aload_n 0, 1) := by decide +kernel
theorem dX6_power_1 : decode cX6_power 1 = .ok (.iconst 0, 1) := by decide +kernel
theorem dX6_power_2 : decode cX6_power 2 = .ok (.iload_n 1, 1) := by decide +kernel
theorem dX6_power_3 : decode cX6_power 3 = .ok (.invokevirtual 61, 3) := by decide +kernel
theorem dX6_power_6 : decode cX6_power 6 = .ok (.istore_n 2, 1) := by decide +kernel
theorem dX6_power_7 : decode cX6_power 7 = .ok (.iload_n 2, 1) := by decide +kernel
theorem dX6_power_8 : decode cX6_power 8 = .ok (.ifCond .eq 8, 3) := by decide +kernel
theorem dX6_power_11 : decode cX6_power 11 = .ok (.iload_n 2, 1) := by decide +kernel
theorem dX6_power_12 : decode cX6_power 12 = .ok (.i2l, 1) := by decide +kernel
theorem dX6_power_13 : decode cX6_power 13 = .ok (.goto 15, 3) := by decide +kernel
theorem dX6_power_16 : decode cX6_power 16 = .ok (.aload_n 0, 1) := by decide +kernel
theorem dX6_power_17 : decode cX6_power 17 = .ok (.invokevirtual 70, 3) := by decide +kernel
theorem dX6_power_20 : decode cX6_power 20 = .ok (.aload_n 0, 1) := by decide +kernel
theorem dX6_power_21 : decode cX6_power 21 = .ok (.getfield 45, 3) := by decide +kernel
theorem dX6_power_24 : decode cX6_power 24 = .ok (.iload_n 1, 1) := by decide +kernel
theorem dX6_power_25 : decode cX6_power 25 = .ok (.invokestatic 64, 3) := by decide +kernel
theorem dX6_power_28 : decode cX6_power 28 = .ok (.lreturn, 1) := by decide +kernel
theorem dX6_cutPower_0 : decode cX6_cutPower 0 = .ok (.iload_n 1, 1) := by decide +kernel
theorem dX6_cutPower_1 : decode cX6_cutPower 1 = .ok (.iconst 0, 1) := by decide +kernel
theorem dX6_cutPower_2 : decode cX6_cutPower 2 = .ok (.iconst 4, 1) := by decide +kernel
theorem dX6_cutPower_3 : decode cX6_cutPower 3 = .ok (.invokestatic 30, 3) := by decide +kernel
theorem dX6_cutPower_6 : decode cX6_cutPower 6 = .ok (.ifCond .eq 10, 3) := by decide +kernel
theorem dX6_cutPower_9 : decode cX6_cutPower 9 = .ok (.iload_n 2, 1) := by decide +kernel
theorem dX6_cutPower_10 : decode cX6_cutPower 10 = .ok (.invokestatic 51, 3) := by decide +kernel
theorem dX6_cutPower_13 : decode cX6_cutPower 13 = .ok (.ifCond .ne 7, 3) := by decide +kernel
theorem dX6_cutPower_16 : decode cX6_cutPower 16 = .ok (.ldc2_w 74, 3) := by decide +kernel
theorem dX6_cutPower_19 : decode cX6_cutPower 19 = .ok (.lreturn, 1) := by decide +kernel
theorem dX6_cutPower_20 : decode cX6_cutPower 20 = .ok (.aload_n 0, 1) := by decide +kernel
theorem dX6_cutPower_21 : decode cX6_cutPower 21 = .ok (.iload_n 1, 1) := by decide +kernel
theorem dX6_cutPower_22 : decode cX6_cutPower 22 = .ok (.invokevirtual 76, 3) := by decide +kernel
theorem dX6_cutPower_25 : decode cX6_cutPower 25 = .ok (.aload_n 0, 1) := by decide +kernel
theorem dX6_cutPower_26 : decode cX6_cutPower 26 = .ok (.invokevirtual 57, 3) := by decide +kernel
theorem dX6_cutPower_29 : decode cX6_cutPower 29 = .ok (.ifCond .eq 18, 3) := by decide +kernel
theorem dX6_cutPower_32 : decode cX6_cutPower 32 = .ok (.aload_n 0, 1) := by decide +kernel
theorem dX6_cutPower_33 : decode cX6_cutPower 33 = .ok (.invokevirtual 70, 3) := by decide +kernel
theorem dX6_cutPower_36 : decode cX6_cutPower 36 = .ok (.aload_n 0, 1) := by decide +kernel
theorem dX6_cutPower_37 : decode cX6_cutPower 37 = .ok (.getfield 45, 3) := by decide +kernel
theorem dX6_cutPower_40 : decode cX6_cutPower 40 = .ok (.iload_n 2, 1) := by decide +kernel
theorem dX6_cutPower_41 : decode cX6_cutPower 41 = .ok (.invokestatic 64, 3) := by decide +kernel
theorem dX6_cutPower_44 : decode cX6_cutPower 44 = .ok (.goto 6, 3) := by decide +kernel
theorem dX6_cutPower_47 : decode cX6_cutPower 47 = .ok (.ldc2_w 80, 3) := by decide +kernel
theorem dX6_cutPower_50 : decode cX6_cutPower 50 = .ok (.lreturn, 1) := by decide +kernel
theorem dX6_finestCut_0 : decode cX6_finestCut 0 = .ok (.iload_n 1, 1) := by decide +kernel
theorem dX6_finestCut_1 : decode cX6_finestCut 1 = .ok (.iconst 0, 1) := by decide +kernel
theorem dX6_finestCut_2 : decode cX6_finestCut 2 = .ok (.ldc 82, 2) := by decide +kernel
theorem dX6_finestCut_4 : decode cX6_finestCut 4 = .ok (.invokestatic 30, 3) := by decide +kernel
theorem dX6_finestCut_7 : decode cX6_finestCut 7 = .ok (.ifCond .ne 6, 3) := by decide +kernel
theorem dX6_finestCut_10 : decode cX6_finestCut 10 = .ok (.bipush (-3), 2) := by decide +kernel
theorem dX6_finestCut_12 : decode cX6_finestCut 12 = .ok (.ireturn, 1) := by decide +kernel
theorem dX6_finestCut_13 : decode cX6_finestCut 13 = .ok (.iconst 4, 1) := by decide +kernel
theorem dX6_finestCut_14 : decode cX6_finestCut 14 = .ok (.istore_n 2, 1) := by decide +kernel
theorem dX6_finestCut_15 : decode cX6_finestCut 15 = .ok (.iload_n 2, 1) := by decide +kernel
theorem dX6_finestCut_16 : decode cX6_finestCut 16 = .ok (.ifCond .lt 38, 3) := by decide +kernel
theorem dX6_finestCut_19 : decode cX6_finestCut 19 = .ok (.aload_n 0, 1) := by decide +kernel
theorem dX6_finestCut_20 : decode cX6_finestCut 20 = .ok (.iload_n 2, 1) := by decide +kernel
theorem dX6_finestCut_21 : decode cX6_finestCut 21 = .ok (.invokevirtual 76, 3) := by decide +kernel
theorem dX6_finestCut_24 : decode cX6_finestCut 24 = .ok (.aload_n 0, 1) := by decide +kernel
theorem dX6_finestCut_25 : decode cX6_finestCut 25 = .ok (.invokevirtual 57, 3) := by decide +kernel
theorem dX6_finestCut_28 : decode cX6_finestCut 28 = .ok (.ifCond .eq 20, 3) := by decide +kernel
theorem dX6_finestCut_31 : decode cX6_finestCut 31 = .ok (.aload_n 0, 1) := by decide +kernel
theorem dX6_finestCut_32 : decode cX6_finestCut 32 = .ok (.invokevirtual 70, 3) := by decide +kernel
theorem dX6_finestCut_35 : decode cX6_finestCut 35 = .ok (.iload_n 1, 1) := by decide +kernel
theorem dX6_finestCut_36 : decode cX6_finestCut 36 = .ok (.i2l, 1) := by decide +kernel
theorem dX6_finestCut_37 : decode cX6_finestCut 37 = .ok (.aload_n 0, 1) := by decide +kernel
theorem dX6_finestCut_38 : decode cX6_finestCut 38 = .ok (.getfield 45, 3) := by decide +kernel
theorem dX6_finestCut_41 : decode cX6_finestCut 41 = .ok (.lmul, 1) := by decide +kernel
theorem dX6_finestCut_42 : decode cX6_finestCut 42 = .ok (.lcmp, 1) := by decide +kernel
theorem dX6_finestCut_43 : decode cX6_finestCut 43 = .ok (.ifCond .gt 5, 3) := by decide +kernel
theorem dX6_finestCut_46 : decode cX6_finestCut 46 = .ok (.iload_n 2, 1) := by decide +kernel
theorem dX6_finestCut_47 : decode cX6_finestCut 47 = .ok (.ireturn, 1) := by decide +kernel
theorem dX6_finestCut_48 : decode cX6_finestCut 48 = .ok (.iinc 2 (-1), 3) := by decide +kernel
theorem dX6_finestCut_51 : decode cX6_finestCut 51 = .ok (.goto (-36), 3) := by decide +kernel
theorem dX6_finestCut_54 : decode cX6_finestCut 54 = .ok (.bipush (-7), 2) := by decide +kernel
theorem dX6_finestCut_56 : decode cX6_finestCut 56 = .ok (.ireturn, 1) := by decide +kernel
theorem dX6_lot_0 : decode cX6_lot 0 = .ok (.bipush 41, 2) := by decide +kernel
theorem dX6_lot_2 : decode cX6_lot 2 = .ok (.bipush 8, 2) := by decide +kernel
theorem dX6_lot_4 : decode cX6_lot 4 = .ok (.iload_n 0, 1) := by decide +kernel
theorem dX6_lot_5 : decode cX6_lot 5 = .ok (.imul, 1) := by decide +kernel
theorem dX6_lot_6 : decode cX6_lot 6 = .ok (.iadd, 1) := by decide +kernel
theorem dX6_lot_7 : decode cX6_lot 7 = .ok (.iload_n 1, 1) := by decide +kernel
theorem dX6_lot_8 : decode cX6_lot 8 = .ok (.iadd, 1) := by decide +kernel
theorem dX6_lot_9 : decode cX6_lot 9 = .ok (.ireturn, 1) := by decide +kernel
theorem dX6_of_0 : decode cX6_of 0 = .ok (.aload_n 0, 1) := by decide +kernel
theorem dX6_of_1 : decode cX6_of 1 = .ok (.getfield 7, 3) := by decide +kernel
theorem dX6_of_4 : decode cX6_of 4 = .ok (.iload_n 1, 1) := by decide +kernel
theorem dX6_of_5 : decode cX6_of 5 = .ok (.iload_n 2, 1) := by decide +kernel
theorem dX6_of_6 : decode cX6_of 6 = .ok (.invokestatic 83, 3) := by decide +kernel
theorem dX6_of_9 : decode cX6_of 9 = .ok (.iaload, 1) := by decide +kernel
theorem dX6_of_10 : decode cX6_of 10 = .ok (.ireturn, 1) := by decide +kernel
theorem dX6_weight_0 : decode cX6_weight 0 = .ok (.aload_n 0, 1) := by decide +kernel
theorem dX6_weight_1 : decode cX6_weight 1 = .ok (.iload_n 1, 1) := by decide +kernel
theorem dX6_weight_2 : decode cX6_weight 2 = .ok (.iconst 0, 1) := by decide +kernel
theorem dX6_weight_3 : decode cX6_weight 3 = .ok (.invokevirtual 86, 3) := by decide +kernel
theorem dX6_weight_6 : decode cX6_weight 6 = .ok (.aload_n 0, 1) := by decide +kernel
theorem dX6_weight_7 : decode cX6_weight 7 = .ok (.iload_n 1, 1) := by decide +kernel
theorem dX6_weight_8 : decode cX6_weight 8 = .ok (.iconst 1, 1) := by decide +kernel
theorem dX6_weight_9 : decode cX6_weight 9 = .ok (.invokevirtual 86, 3) := by decide +kernel
theorem dX6_weight_12 : decode cX6_weight 12 = .ok (.iadd, 1) := by decide +kernel
theorem dX6_weight_13 : decode cX6_weight 13 = .ok (.aload_n 0, 1) := by decide +kernel
theorem dX6_weight_14 : decode cX6_weight 14 = .ok (.iload_n 1, 1) := by decide +kernel
theorem dX6_weight_15 : decode cX6_weight 15 = .ok (.iconst 2, 1) := by decide +kernel
theorem dX6_weight_16 : decode cX6_weight 16 = .ok (.invokevirtual 86, 3) := by decide +kernel
theorem dX6_weight_19 : decode cX6_weight 19 = .ok (.iadd, 1) := by decide +kernel
theorem dX6_weight_20 : decode cX6_weight 20 = .ok (.aload_n 0, 1) := by decide +kernel
theorem dX6_weight_21 : decode cX6_weight 21 = .ok (.iload_n 1, 1) := by decide +kernel
theorem dX6_weight_22 : decode cX6_weight 22 = .ok (.iconst 3, 1) := by decide +kernel
theorem dX6_weight_23 : decode cX6_weight 23 = .ok (.invokevirtual 86, 3) := by decide +kernel
theorem dX6_weight_26 : decode cX6_weight 26 = .ok (.iadd, 1) := by decide +kernel
theorem dX6_weight_27 : decode cX6_weight 27 = .ok (.ireturn, 1) := by decide +kernel
theorem dX6_ahead_0 : decode cX6_ahead 0 = .ok (.aload_n 0, 1) := by decide +kernel
theorem dX6_ahead_1 : decode cX6_ahead 1 = .ok (.getfield 7, 3) := by decide +kernel
theorem dX6_ahead_4 : decode cX6_ahead 4 = .ok (.bipush 29, 2) := by decide +kernel
theorem dX6_ahead_6 : decode cX6_ahead 6 = .ok (.iaload, 1) := by decide +kernel
theorem dX6_ahead_7 : decode cX6_ahead 7 = .ok (.ifCond .ne 5, 3) := by decide +kernel
theorem dX6_ahead_10 : decode cX6_ahead 10 = .ok (.iconst 0, 1) := by decide +kernel
theorem dX6_ahead_11 : decode cX6_ahead 11 = .ok (.ireturn, 1) := by decide +kernel
theorem dX6_ahead_12 : decode cX6_ahead 12 = .ok (.aload_n 0, 1) := by decide +kernel
theorem dX6_ahead_13 : decode cX6_ahead 13 = .ok (.getfield 7, 3) := by decide +kernel
theorem dX6_ahead_16 : decode cX6_ahead 16 = .ok (.bipush 29, 2) := by decide +kernel
theorem dX6_ahead_18 : decode cX6_ahead 18 = .ok (.iaload, 1) := by decide +kernel
theorem dX6_ahead_19 : decode cX6_ahead 19 = .ok (.iconst 1, 1) := by decide +kernel
theorem dX6_ahead_20 : decode cX6_ahead 20 = .ok (.if_icmp .ne 15, 3) := by decide +kernel
theorem dX6_ahead_23 : decode cX6_ahead 23 = .ok (.aload_n 0, 1) := by decide +kernel
theorem dX6_ahead_24 : decode cX6_ahead 24 = .ok (.iload_n 1, 1) := by decide +kernel
theorem dX6_ahead_25 : decode cX6_ahead 25 = .ok (.invokevirtual 89, 3) := by decide +kernel
theorem dX6_ahead_28 : decode cX6_ahead 28 = .ok (.aload_n 0, 1) := by decide +kernel
theorem dX6_ahead_29 : decode cX6_ahead 29 = .ok (.iload_n 2, 1) := by decide +kernel
theorem dX6_ahead_30 : decode cX6_ahead 30 = .ok (.invokevirtual 89, 3) := by decide +kernel
theorem dX6_ahead_33 : decode cX6_ahead 33 = .ok (.isub, 1) := by decide +kernel
theorem dX6_ahead_34 : decode cX6_ahead 34 = .ok (.ireturn, 1) := by decide +kernel
theorem dX6_ahead_35 : decode cX6_ahead 35 = .ok (.iconst 0, 1) := by decide +kernel
theorem dX6_ahead_36 : decode cX6_ahead 36 = .ok (.istore_n 3, 1) := by decide +kernel
theorem dX6_ahead_37 : decode cX6_ahead 37 = .ok (.iload_n 3, 1) := by decide +kernel
theorem dX6_ahead_38 : decode cX6_ahead 38 = .ok (.iconst 3, 1) := by decide +kernel
theorem dX6_ahead_39 : decode cX6_ahead 39 = .ok (.if_icmp .ge 24, 3) := by decide +kernel
theorem dX6_ahead_42 : decode cX6_ahead 42 = .ok (.aload_n 0, 1) := by decide +kernel
theorem dX6_ahead_43 : decode cX6_ahead 43 = .ok (.iload_n 1, 1) := by decide +kernel
theorem dX6_ahead_44 : decode cX6_ahead 44 = .ok (.iload_n 3, 1) := by decide +kernel
theorem dX6_ahead_45 : decode cX6_ahead 45 = .ok (.invokevirtual 86, 3) := by decide +kernel
theorem dX6_ahead_48 : decode cX6_ahead 48 = .ok (.aload_n 0, 1) := by decide +kernel
theorem dX6_ahead_49 : decode cX6_ahead 49 = .ok (.iload_n 2, 1) := by decide +kernel
theorem dX6_ahead_50 : decode cX6_ahead 50 = .ok (.iload_n 3, 1) := by decide +kernel
theorem dX6_ahead_51 : decode cX6_ahead 51 = .ok (.invokevirtual 86, 3) := by decide +kernel
theorem dX6_ahead_54 : decode cX6_ahead 54 = .ok (.if_icmp .ne 9, 3) := by decide +kernel
theorem dX6_ahead_57 : decode cX6_ahead 57 = .ok (.iinc 3 1, 3) := by decide +kernel
theorem dX6_ahead_60 : decode cX6_ahead 60 = .ok (.goto (-23), 3) := by decide +kernel
theorem dX6_ahead_63 : decode cX6_ahead 63 = .ok (.aload_n 0, 1) := by decide +kernel
theorem dX6_ahead_64 : decode cX6_ahead 64 = .ok (.iload_n 1, 1) := by decide +kernel
theorem dX6_ahead_65 : decode cX6_ahead 65 = .ok (.iload_n 3, 1) := by decide +kernel
theorem dX6_ahead_66 : decode cX6_ahead 66 = .ok (.invokevirtual 86, 3) := by decide +kernel
theorem dX6_ahead_69 : decode cX6_ahead 69 = .ok (.aload_n 0, 1) := by decide +kernel
theorem dX6_ahead_70 : decode cX6_ahead 70 = .ok (.iload_n 2, 1) := by decide +kernel
theorem dX6_ahead_71 : decode cX6_ahead 71 = .ok (.iload_n 3, 1) := by decide +kernel
theorem dX6_ahead_72 : decode cX6_ahead 72 = .ok (.invokevirtual 86, 3) := by decide +kernel
theorem dX6_ahead_75 : decode cX6_ahead 75 = .ok (.isub, 1) := by decide +kernel
theorem dX6_ahead_76 : decode cX6_ahead 76 = .ok (.ireturn, 1) := by decide +kernel
theorem dX6_isAhead_0 : decode cX6_isAhead 0 = .ok (.aload_n 0, 1) := by decide +kernel
theorem dX6_isAhead_1 : decode cX6_isAhead 1 = .ok (.iload_n 1, 1) := by decide +kernel
theorem dX6_isAhead_2 : decode cX6_isAhead 2 = .ok (.iload_n 2, 1) := by decide +kernel
theorem dX6_isAhead_3 : decode cX6_isAhead 3 = .ok (.invokevirtual 93, 3) := by decide +kernel
theorem dX6_isAhead_6 : decode cX6_isAhead 6 = .ok (.istore_n 3, 1) := by decide +kernel
theorem dX6_isAhead_7 : decode cX6_isAhead 7 = .ok (.iload_n 3, 1) := by decide +kernel
theorem dX6_isAhead_8 : decode cX6_isAhead 8 = .ok (.ifCond .gt 22, 3) := by decide +kernel
theorem dX6_isAhead_11 : decode cX6_isAhead 11 = .ok (.iload_n 3, 1) := by decide +kernel
theorem dX6_isAhead_12 : decode cX6_isAhead 12 = .ok (.ifCond .ne 22, 3) := by decide +kernel
theorem dX6_isAhead_15 : decode cX6_isAhead 15 = .ok (.aload_n 0, 1) := by decide +kernel
theorem dX6_isAhead_16 : decode cX6_isAhead 16 = .ok (.iload_n 1, 1) := by decide +kernel
theorem dX6_isAhead_17 : decode cX6_isAhead 17 = .ok (.iconst 5, 1) := by decide +kernel
theorem dX6_isAhead_18 : decode cX6_isAhead 18 = .ok (.invokevirtual 86, 3) := by decide +kernel
theorem dX6_isAhead_21 : decode cX6_isAhead 21 = .ok (.aload_n 0, 1) := by decide +kernel
theorem dX6_isAhead_22 : decode cX6_isAhead 22 = .ok (.iload_n 2, 1) := by decide +kernel
theorem dX6_isAhead_23 : decode cX6_isAhead 23 = .ok (.iconst 5, 1) := by decide +kernel
theorem dX6_isAhead_24 : decode cX6_isAhead 24 = .ok (.invokevirtual 86, 3) := by decide +kernel
theorem dX6_isAhead_27 : decode cX6_isAhead 27 = .ok (.if_icmp .ge 7, 3) := by decide +kernel
theorem dX6_isAhead_30 : decode cX6_isAhead 30 = .ok (.iconst 1, 1) := by decide +kernel
theorem dX6_isAhead_31 : decode cX6_isAhead 31 = .ok (.goto 4, 3) := by decide +kernel
theorem dX6_isAhead_34 : decode cX6_isAhead 34 = .ok (.iconst 0, 1) := by decide +kernel
theorem dX6_isAhead_35 : decode cX6_isAhead 35 = .ok (.ireturn, 1) := by decide +kernel
theorem dX6_place_0 : decode cX6_place 0 = .ok (.iconst 0, 1) := by decide +kernel
theorem dX6_place_1 : decode cX6_place 1 = .ok (.istore_n 2, 1) := by decide +kernel
theorem dX6_place_2 : decode cX6_place 2 = .ok (.iconst 0, 1) := by decide +kernel
theorem dX6_place_3 : decode cX6_place 3 = .ok (.istore_n 3, 1) := by decide +kernel
theorem dX6_place_4 : decode cX6_place 4 = .ok (.iload_n 3, 1) := by decide +kernel
theorem dX6_place_5 : decode cX6_place 5 = .ok (.aload_n 0, 1) := by decide +kernel
theorem dX6_place_6 : decode cX6_place 6 = .ok (.getfield 7, 3) := by decide +kernel
theorem dX6_place_9 : decode cX6_place 9 = .ok (.bipush 31, 2) := by decide +kernel
theorem dX6_place_11 : decode cX6_place 11 = .ok (.iaload, 1) := by decide +kernel
theorem dX6_place_12 : decode cX6_place 12 = .ok (.if_icmp .ge 41, 3) := by decide +kernel
theorem dX6_place_15 : decode cX6_place 15 = .ok (.iload_n 2, 1) := by decide +kernel
theorem dX6_place_16 : decode cX6_place 16 = .ok (.iload_n 3, 1) := by decide +kernel
theorem dX6_place_17 : decode cX6_place 17 = .ok (.iload_n 1, 1) := by decide +kernel
theorem dX6_place_18 : decode cX6_place 18 = .ok (.if_icmp .eq 26, 3) := by decide +kernel
theorem dX6_place_21 : decode cX6_place 21 = .ok (.aload_n 0, 1) := by decide +kernel
theorem dX6_place_22 : decode cX6_place 22 = .ok (.iload_n 3, 1) := by decide +kernel
theorem dX6_place_23 : decode cX6_place 23 = .ok (.iconst 4, 1) := by decide +kernel
theorem dX6_place_24 : decode cX6_place 24 = .ok (.invokevirtual 86, 3) := by decide +kernel
theorem dX6_place_27 : decode cX6_place 27 = .ok (.iconst 1, 1) := by decide +kernel
theorem dX6_place_28 : decode cX6_place 28 = .ok (.if_icmp .ne 16, 3) := by decide +kernel
theorem dX6_place_31 : decode cX6_place 31 = .ok (.aload_n 0, 1) := by decide +kernel
theorem dX6_place_32 : decode cX6_place 32 = .ok (.iload_n 3, 1) := by decide +kernel
theorem dX6_place_33 : decode cX6_place 33 = .ok (.iload_n 1, 1) := by decide +kernel
theorem dX6_place_34 : decode cX6_place 34 = .ok (.invokevirtual 96, 3) := by decide +kernel
theorem dX6_place_37 : decode cX6_place 37 = .ok (.ifCond .eq 7, 3) := by decide +kernel
theorem dX6_place_40 : decode cX6_place 40 = .ok (.iconst 1, 1) := by decide +kernel
theorem dX6_place_41 : decode cX6_place 41 = .ok (.goto 4, 3) := by decide +kernel
theorem dX6_place_44 : decode cX6_place 44 = .ok (.iconst 0, 1) := by decide +kernel
theorem dX6_place_45 : decode cX6_place 45 = .ok (.iadd, 1) := by decide +kernel
theorem dX6_place_46 : decode cX6_place 46 = .ok (.istore_n 2, 1) := by decide +kernel
theorem dX6_place_47 : decode cX6_place 47 = .ok (.iinc 3 1, 3) := by decide +kernel
theorem dX6_place_50 : decode cX6_place 50 = .ok (.goto (-46), 3) := by decide +kernel
theorem dX6_place_53 : decode cX6_place 53 = .ok (.iload_n 2, 1) := by decide +kernel
theorem dX6_place_54 : decode cX6_place 54 = .ok (.ireturn, 1) := by decide +kernel
theorem dX6_inBin_0 : decode cX6_inBin 0 = .ok (.iconst 0, 1) := by decide +kernel
theorem dX6_inBin_1 : decode cX6_inBin 1 = .ok (.istore_n 2, 1) := by decide +kernel
theorem dX6_inBin_2 : decode cX6_inBin 2 = .ok (.iload_n 2, 1) := by decide +kernel
theorem dX6_inBin_3 : decode cX6_inBin 3 = .ok (.aload_n 0, 1) := by decide +kernel
theorem dX6_inBin_4 : decode cX6_inBin 4 = .ok (.getfield 7, 3) := by decide +kernel
theorem dX6_inBin_7 : decode cX6_inBin 7 = .ok (.bipush 31, 2) := by decide +kernel
theorem dX6_inBin_9 : decode cX6_inBin 9 = .ok (.iaload, 1) := by decide +kernel
theorem dX6_inBin_10 : decode cX6_inBin 10 = .ok (.if_icmp .ge 30, 3) := by decide +kernel
theorem dX6_inBin_13 : decode cX6_inBin 13 = .ok (.aload_n 0, 1) := by decide +kernel
theorem dX6_inBin_14 : decode cX6_inBin 14 = .ok (.iload_n 2, 1) := by decide +kernel
theorem dX6_inBin_15 : decode cX6_inBin 15 = .ok (.iconst 4, 1) := by decide +kernel
theorem dX6_inBin_16 : decode cX6_inBin 16 = .ok (.invokevirtual 86, 3) := by decide +kernel
theorem dX6_inBin_19 : decode cX6_inBin 19 = .ok (.iconst 1, 1) := by decide +kernel
theorem dX6_inBin_20 : decode cX6_inBin 20 = .ok (.if_icmp .ne 14, 3) := by decide +kernel
theorem dX6_inBin_23 : decode cX6_inBin 23 = .ok (.aload_n 0, 1) := by decide +kernel
theorem dX6_inBin_24 : decode cX6_inBin 24 = .ok (.iload_n 2, 1) := by decide +kernel
theorem dX6_inBin_25 : decode cX6_inBin 25 = .ok (.invokevirtual 100, 3) := by decide +kernel
theorem dX6_inBin_28 : decode cX6_inBin 28 = .ok (.iload_n 1, 1) := by decide +kernel
theorem dX6_inBin_29 : decode cX6_inBin 29 = .ok (.if_icmp .ne 5, 3) := by decide +kernel
theorem dX6_inBin_32 : decode cX6_inBin 32 = .ok (.iload_n 2, 1) := by decide +kernel
theorem dX6_inBin_33 : decode cX6_inBin 33 = .ok (.ireturn, 1) := by decide +kernel
theorem dX6_inBin_34 : decode cX6_inBin 34 = .ok (.iinc 2 1, 3) := by decide +kernel
theorem dX6_inBin_37 : decode cX6_inBin 37 = .ok (.goto (-35), 3) := by decide +kernel
theorem dX6_inBin_40 : decode cX6_inBin 40 = .ok (.bipush (-7), 2) := by decide +kernel
theorem dX6_inBin_42 : decode cX6_inBin 42 = .ok (.ireturn, 1) := by decide +kernel
theorem dX6_comes_0 : decode cX6_comes 0 = .ok (.aload_n 0, 1) := by decide +kernel
theorem dX6_comes_1 : decode cX6_comes 1 = .ok (.getfield 7, 3) := by decide +kernel
theorem dX6_comes_4 : decode cX6_comes 4 = .ok (.iload_n 1, 1) := by decide +kernel
theorem dX6_comes_5 : decode cX6_comes 5 = .ok (.iconst 4, 1) := by decide +kernel
theorem dX6_comes_6 : decode cX6_comes 6 = .ok (.invokestatic 83, 3) := by decide +kernel
theorem dX6_comes_9 : decode cX6_comes 9 = .ok (.iconst 1, 1) := by decide +kernel
theorem dX6_comes_10 : decode cX6_comes 10 = .ok (.iastore, 1) := by decide +kernel
theorem dX6_comes_11 : decode cX6_comes 11 = .ok (.aload_n 0, 1) := by decide +kernel
theorem dX6_comes_12 : decode cX6_comes 12 = .ok (.getfield 7, 3) := by decide +kernel
theorem dX6_comes_15 : decode cX6_comes 15 = .ok (.iload_n 1, 1) := by decide +kernel
theorem dX6_comes_16 : decode cX6_comes 16 = .ok (.iconst 5, 1) := by decide +kernel
theorem dX6_comes_17 : decode cX6_comes 17 = .ok (.invokestatic 83, 3) := by decide +kernel
theorem dX6_comes_20 : decode cX6_comes 20 = .ok (.aload_n 0, 1) := by decide +kernel
theorem dX6_comes_21 : decode cX6_comes 21 = .ok (.getfield 7, 3) := by decide +kernel
theorem dX6_comes_24 : decode cX6_comes 24 = .ok (.bipush 34, 2) := by decide +kernel
theorem dX6_comes_26 : decode cX6_comes 26 = .ok (.iaload, 1) := by decide +kernel
theorem dX6_comes_27 : decode cX6_comes 27 = .ok (.iastore, 1) := by decide +kernel
theorem dX6_comes_28 : decode cX6_comes 28 = .ok (.aload_n 0, 1) := by decide +kernel
theorem dX6_comes_29 : decode cX6_comes 29 = .ok (.getfield 7, 3) := by decide +kernel
theorem dX6_comes_32 : decode cX6_comes 32 = .ok (.bipush 34, 2) := by decide +kernel
theorem dX6_comes_34 : decode cX6_comes 34 = .ok (.dup2, 1) := by decide +kernel
theorem dX6_comes_35 : decode cX6_comes 35 = .ok (.iaload, 1) := by decide +kernel
theorem dX6_comes_36 : decode cX6_comes 36 = .ok (.iconst 1, 1) := by decide +kernel
theorem dX6_comes_37 : decode cX6_comes 37 = .ok (.iadd, 1) := by decide +kernel
theorem dX6_comes_38 : decode cX6_comes 38 = .ok (.iastore, 1) := by decide +kernel
theorem dX6_comes_39 : decode cX6_comes 39 = .ok (.return_, 1) := by decide +kernel
theorem dX6_start_0 : decode cX6_start 0 = .ok (.aload_n 0, 1) := by decide +kernel
theorem dX6_start_1 : decode cX6_start 1 = .ok (.getfield 7, 3) := by decide +kernel
theorem dX6_start_4 : decode cX6_start 4 = .ok (.bipush 35, 2) := by decide +kernel
theorem dX6_start_6 : decode cX6_start 6 = .ok (.iaload, 1) := by decide +kernel
theorem dX6_start_7 : decode cX6_start 7 = .ok (.ifCond .ge 11, 3) := by decide +kernel
theorem dX6_start_10 : decode cX6_start 10 = .ok (.aload_n 0, 1) := by decide +kernel
theorem dX6_start_11 : decode cX6_start 11 = .ok (.iconst 0, 1) := by decide +kernel
theorem dX6_start_12 : decode cX6_start 12 = .ok (.invokevirtual 103, 3) := by decide +kernel
theorem dX6_start_15 : decode cX6_start 15 = .ok (.goto 5, 3) := by decide +kernel
theorem dX6_start_18 : decode cX6_start 18 = .ok (.bipush (-7), 2) := by decide +kernel
theorem dX6_start_20 : decode cX6_start 20 = .ok (.istore_n 1, 1) := by decide +kernel
theorem dX6_start_21 : decode cX6_start 21 = .ok (.iload_n 1, 1) := by decide +kernel
theorem dX6_start_22 : decode cX6_start 22 = .ok (.ifCond .lt 60, 3) := by decide +kernel
theorem dX6_start_25 : decode cX6_start 25 = .ok (.aload_n 0, 1) := by decide +kernel
theorem dX6_start_26 : decode cX6_start 26 = .ok (.getfield 7, 3) := by decide +kernel
theorem dX6_start_29 : decode cX6_start 29 = .ok (.iload_n 1, 1) := by decide +kernel
theorem dX6_start_30 : decode cX6_start 30 = .ok (.iconst 4, 1) := by decide +kernel
theorem dX6_start_31 : decode cX6_start 31 = .ok (.invokestatic 83, 3) := by decide +kernel
theorem dX6_start_34 : decode cX6_start 34 = .ok (.iconst 2, 1) := by decide +kernel
theorem dX6_start_35 : decode cX6_start 35 = .ok (.iastore, 1) := by decide +kernel
theorem dX6_start_36 : decode cX6_start 36 = .ok (.aload_n 0, 1) := by decide +kernel
theorem dX6_start_37 : decode cX6_start 37 = .ok (.getfield 7, 3) := by decide +kernel
theorem dX6_start_40 : decode cX6_start 40 = .ok (.bipush 35, 2) := by decide +kernel
theorem dX6_start_42 : decode cX6_start 42 = .ok (.iload_n 1, 1) := by decide +kernel
theorem dX6_start_43 : decode cX6_start 43 = .ok (.iastore, 1) := by decide +kernel
theorem dX6_start_44 : decode cX6_start 44 = .ok (.aload_n 0, 1) := by decide +kernel
theorem dX6_start_45 : decode cX6_start 45 = .ok (.getfield 7, 3) := by decide +kernel
theorem dX6_start_48 : decode cX6_start 48 = .ok (.bipush 36, 2) := by decide +kernel
theorem dX6_start_50 : decode cX6_start 50 = .ok (.aload_n 0, 1) := by decide +kernel
theorem dX6_start_51 : decode cX6_start 51 = .ok (.getfield 7, 3) := by decide +kernel
theorem dX6_start_54 : decode cX6_start 54 = .ok (.bipush 30, 2) := by decide +kernel
theorem dX6_start_56 : decode cX6_start 56 = .ok (.iaload, 1) := by decide +kernel
theorem dX6_start_57 : decode cX6_start 57 = .ok (.aload_n 0, 1) := by decide +kernel
theorem dX6_start_58 : decode cX6_start 58 = .ok (.iload_n 1, 1) := by decide +kernel
theorem dX6_start_59 : decode cX6_start 59 = .ok (.invokevirtual 89, 3) := by decide +kernel
theorem dX6_start_62 : decode cX6_start 62 = .ok (.aload_n 0, 1) := by decide +kernel
theorem dX6_start_63 : decode cX6_start 63 = .ok (.getfield 7, 3) := by decide +kernel
theorem dX6_start_66 : decode cX6_start 66 = .ok (.bipush 28, 2) := by decide +kernel
theorem dX6_start_68 : decode cX6_start 68 = .ok (.iaload, 1) := by decide +kernel
theorem dX6_start_69 : decode cX6_start 69 = .ok (.iadd, 1) := by decide +kernel
theorem dX6_start_70 : decode cX6_start 70 = .ok (.iconst 1, 1) := by decide +kernel
theorem dX6_start_71 : decode cX6_start 71 = .ok (.isub, 1) := by decide +kernel
theorem dX6_start_72 : decode cX6_start 72 = .ok (.aload_n 0, 1) := by decide +kernel
theorem dX6_start_73 : decode cX6_start 73 = .ok (.getfield 7, 3) := by decide +kernel
theorem dX6_start_76 : decode cX6_start 76 = .ok (.bipush 28, 2) := by decide +kernel
theorem dX6_start_78 : decode cX6_start 78 = .ok (.iaload, 1) := by decide +kernel
theorem dX6_start_79 : decode cX6_start 79 = .ok (.idiv, 1) := by decide +kernel
theorem dX6_start_80 : decode cX6_start 80 = .ok (.iadd, 1) := by decide +kernel
theorem dX6_start_81 : decode cX6_start 81 = .ok (.iastore, 1) := by decide +kernel
theorem dX6_start_82 : decode cX6_start 82 = .ok (.return_, 1) := by decide +kernel
theorem dX6_finish_0 : decode cX6_finish 0 = .ok (.aload_n 0, 1) := by decide +kernel
theorem dX6_finish_1 : decode cX6_finish 1 = .ok (.getfield 7, 3) := by decide +kernel
theorem dX6_finish_4 : decode cX6_finish 4 = .ok (.bipush 35, 2) := by decide +kernel
theorem dX6_finish_6 : decode cX6_finish 6 = .ok (.iaload, 1) := by decide +kernel
theorem dX6_finish_7 : decode cX6_finish 7 = .ok (.istore_n 1, 1) := by decide +kernel
theorem dX6_finish_8 : decode cX6_finish 8 = .ok (.iconst 0, 1) := by decide +kernel
theorem dX6_finish_9 : decode cX6_finish 9 = .ok (.istore_n 2, 1) := by decide +kernel
theorem dX6_finish_10 : decode cX6_finish 10 = .ok (.iload_n 2, 1) := by decide +kernel
theorem dX6_finish_11 : decode cX6_finish 11 = .ok (.iconst 4, 1) := by decide +kernel
theorem dX6_finish_12 : decode cX6_finish 12 = .ok (.if_icmp .ge 16, 3) := by decide +kernel
theorem dX6_finish_15 : decode cX6_finish 15 = .ok (.aload_n 0, 1) := by decide +kernel
theorem dX6_finish_16 : decode cX6_finish 16 = .ok (.getfield 27, 3) := by decide +kernel
theorem dX6_finish_19 : decode cX6_finish 19 = .ok (.iload_n 2, 1) := by decide +kernel
theorem dX6_finish_20 : decode cX6_finish 20 = .ok (.iconst 0, 1) := by decide +kernel
theorem dX6_finish_21 : decode cX6_finish 21 = .ok (.iastore, 1) := by decide +kernel
theorem dX6_finish_22 : decode cX6_finish 22 = .ok (.iinc 2 1, 3) := by decide +kernel
theorem dX6_finish_25 : decode cX6_finish 25 = .ok (.goto (-15), 3) := by decide +kernel
theorem dX6_finish_28 : decode cX6_finish 28 = .ok (.iconst 0, 1) := by decide +kernel
theorem dX6_finish_29 : decode cX6_finish 29 = .ok (.istore_n 2, 1) := by decide +kernel
theorem dX6_finish_30 : decode cX6_finish 30 = .ok (.iload_n 2, 1) := by decide +kernel
theorem dX6_finish_31 : decode cX6_finish 31 = .ok (.iconst 4, 1) := by decide +kernel
theorem dX6_finish_32 : decode cX6_finish 32 = .ok (.if_icmp .ge 101, 3) := by decide +kernel
theorem dX6_finish_35 : decode cX6_finish 35 = .ok (.aload_n 0, 1) := by decide +kernel
theorem dX6_finish_36 : decode cX6_finish 36 = .ok (.iload_n 1, 1) := by decide +kernel
theorem dX6_finish_37 : decode cX6_finish 37 = .ok (.iload_n 2, 1) := by decide +kernel
theorem dX6_finish_38 : decode cX6_finish 38 = .ok (.invokevirtual 86, 3) := by decide +kernel
theorem dX6_finish_41 : decode cX6_finish 41 = .ok (.istore_n 3, 1) := by decide +kernel
theorem dX6_finish_42 : decode cX6_finish 42 = .ok (.iload_n 3, 1) := by decide +kernel
theorem dX6_finish_43 : decode cX6_finish 43 = .ok (.istore 4, 2) := by decide +kernel
theorem dX6_finish_45 : decode cX6_finish 45 = .ok (.iload_n 2, 1) := by decide +kernel
theorem dX6_finish_46 : decode cX6_finish 46 = .ok (.iconst 1, 1) := by decide +kernel
theorem dX6_finish_47 : decode cX6_finish 47 = .ok (.iadd, 1) := by decide +kernel
theorem dX6_finish_48 : decode cX6_finish 48 = .ok (.istore 5, 2) := by decide +kernel
theorem dX6_finish_50 : decode cX6_finish 50 = .ok (.iload 5, 2) := by decide +kernel
theorem dX6_finish_52 : decode cX6_finish 52 = .ok (.iconst 4, 1) := by decide +kernel
theorem dX6_finish_53 : decode cX6_finish 53 = .ok (.if_icmp .ge 42, 3) := by decide +kernel
theorem dX6_finish_56 : decode cX6_finish 56 = .ok (.iload_n 3, 1) := by decide +kernel
theorem dX6_finish_57 : decode cX6_finish 57 = .ok (.aload_n 0, 1) := by decide +kernel
theorem dX6_finish_58 : decode cX6_finish 58 = .ok (.iload_n 2, 1) := by decide +kernel
theorem dX6_finish_59 : decode cX6_finish 59 = .ok (.iload 5, 2) := by decide +kernel
theorem dX6_finish_61 : decode cX6_finish 61 = .ok (.invokevirtual 38, 3) := by decide +kernel
theorem dX6_finish_64 : decode cX6_finish 64 = .ok (.imul, 1) := by decide +kernel
theorem dX6_finish_65 : decode cX6_finish 65 = .ok (.bipush 10, 2) := by decide +kernel
theorem dX6_finish_67 : decode cX6_finish 67 = .ok (.idiv, 1) := by decide +kernel
theorem dX6_finish_68 : decode cX6_finish 68 = .ok (.istore 6, 2) := by decide +kernel
theorem dX6_finish_70 : decode cX6_finish 70 = .ok (.aload_n 0, 1) := by decide +kernel
theorem dX6_finish_71 : decode cX6_finish 71 = .ok (.getfield 27, 3) := by decide +kernel
theorem dX6_finish_74 : decode cX6_finish 74 = .ok (.iload 5, 2) := by decide +kernel
theorem dX6_finish_76 : decode cX6_finish 76 = .ok (.dup2, 1) := by decide +kernel
theorem dX6_finish_77 : decode cX6_finish 77 = .ok (.iaload, 1) := by decide +kernel
theorem dX6_finish_78 : decode cX6_finish 78 = .ok (.iload 6, 2) := by decide +kernel
theorem dX6_finish_80 : decode cX6_finish 80 = .ok (.iadd, 1) := by decide +kernel
theorem dX6_finish_81 : decode cX6_finish 81 = .ok (.iastore, 1) := by decide +kernel
theorem dX6_finish_82 : decode cX6_finish 82 = .ok (.iload 4, 2) := by decide +kernel
theorem dX6_finish_84 : decode cX6_finish 84 = .ok (.iload 6, 2) := by decide +kernel
theorem dX6_finish_86 : decode cX6_finish 86 = .ok (.isub, 1) := by decide +kernel
theorem dX6_finish_87 : decode cX6_finish 87 = .ok (.istore 4, 2) := by decide +kernel
theorem dX6_finish_89 : decode cX6_finish 89 = .ok (.iinc 5 1, 3) := by decide +kernel
theorem dX6_finish_92 : decode cX6_finish 92 = .ok (.goto (-42), 3) := by decide +kernel
theorem dX6_finish_95 : decode cX6_finish 95 = .ok (.aload_n 0, 1) := by decide +kernel
theorem dX6_finish_96 : decode cX6_finish 96 = .ok (.getfield 27, 3) := by decide +kernel
theorem dX6_finish_99 : decode cX6_finish 99 = .ok (.iload_n 2, 1) := by decide +kernel
theorem dX6_finish_100 : decode cX6_finish 100 = .ok (.dup2, 1) := by decide +kernel
theorem dX6_finish_101 : decode cX6_finish 101 = .ok (.iaload, 1) := by decide +kernel
theorem dX6_finish_102 : decode cX6_finish 102 = .ok (.iload 4, 2) := by decide +kernel
theorem dX6_finish_104 : decode cX6_finish 104 = .ok (.iadd, 1) := by decide +kernel
theorem dX6_finish_105 : decode cX6_finish 105 = .ok (.iastore, 1) := by decide +kernel
theorem dX6_finish_106 : decode cX6_finish 106 = .ok (.aload_n 0, 1) := by decide +kernel
theorem dX6_finish_107 : decode cX6_finish 107 = .ok (.getfield 7, 3) := by decide +kernel
theorem dX6_finish_110 : decode cX6_finish 110 = .ok (.bipush 32, 2) := by decide +kernel
theorem dX6_finish_112 : decode cX6_finish 112 = .ok (.dup2, 1) := by decide +kernel
theorem dX6_finish_113 : decode cX6_finish 113 = .ok (.iaload, 1) := by decide +kernel
theorem dX6_finish_114 : decode cX6_finish 114 = .ok (.aload_n 0, 1) := by decide +kernel
theorem dX6_finish_115 : decode cX6_finish 115 = .ok (.getfield 7, 3) := by decide +kernel
theorem dX6_finish_118 : decode cX6_finish 118 = .ok (.bipush 20, 2) := by decide +kernel
theorem dX6_finish_120 : decode cX6_finish 120 = .ok (.iload_n 2, 1) := by decide +kernel
theorem dX6_finish_121 : decode cX6_finish 121 = .ok (.iadd, 1) := by decide +kernel
theorem dX6_finish_122 : decode cX6_finish 122 = .ok (.iaload, 1) := by decide +kernel
theorem dX6_finish_123 : decode cX6_finish 123 = .ok (.iload_n 3, 1) := by decide +kernel
theorem dX6_finish_124 : decode cX6_finish 124 = .ok (.imul, 1) := by decide +kernel
theorem dX6_finish_125 : decode cX6_finish 125 = .ok (.iadd, 1) := by decide +kernel
theorem dX6_finish_126 : decode cX6_finish 126 = .ok (.iastore, 1) := by decide +kernel
theorem dX6_finish_127 : decode cX6_finish 127 = .ok (.iinc 2 1, 3) := by decide +kernel
theorem dX6_finish_130 : decode cX6_finish 130 = .ok (.goto (-100), 3) := by decide +kernel
theorem dX6_finish_133 : decode cX6_finish 133 = .ok (.iconst 0, 1) := by decide +kernel
theorem dX6_finish_134 : decode cX6_finish 134 = .ok (.istore_n 2, 1) := by decide +kernel
theorem dX6_finish_135 : decode cX6_finish 135 = .ok (.iconst 0, 1) := by decide +kernel
theorem dX6_finish_136 : decode cX6_finish 136 = .ok (.istore_n 3, 1) := by decide +kernel
theorem dX6_finish_137 : decode cX6_finish 137 = .ok (.iload_n 3, 1) := by decide +kernel
theorem dX6_finish_138 : decode cX6_finish 138 = .ok (.iconst 4, 1) := by decide +kernel
theorem dX6_finish_139 : decode cX6_finish 139 = .ok (.if_icmp .ge 68, 3) := by decide +kernel
theorem dX6_finish_142 : decode cX6_finish 142 = .ok (.aload_n 0, 1) := by decide +kernel
theorem dX6_finish_143 : decode cX6_finish 143 = .ok (.getfield 27, 3) := by decide +kernel
theorem dX6_finish_146 : decode cX6_finish 146 = .ok (.iload_n 3, 1) := by decide +kernel
theorem dX6_finish_147 : decode cX6_finish 147 = .ok (.iaload, 1) := by decide +kernel
theorem dX6_finish_148 : decode cX6_finish 148 = .ok (.aload_n 0, 1) := by decide +kernel
theorem dX6_finish_149 : decode cX6_finish 149 = .ok (.getfield 7, 3) := by decide +kernel
theorem dX6_finish_152 : decode cX6_finish 152 = .ok (.bipush 16, 2) := by decide +kernel
theorem dX6_finish_154 : decode cX6_finish 154 = .ok (.iload_n 3, 1) := by decide +kernel
theorem dX6_finish_155 : decode cX6_finish 155 = .ok (.iadd, 1) := by decide +kernel
theorem dX6_finish_156 : decode cX6_finish 156 = .ok (.iaload, 1) := by decide +kernel
theorem dX6_finish_157 : decode cX6_finish 157 = .ok (.imul, 1) := by decide +kernel
theorem dX6_finish_158 : decode cX6_finish 158 = .ok (.bipush 10, 2) := by decide +kernel
theorem dX6_finish_160 : decode cX6_finish 160 = .ok (.idiv, 1) := by decide +kernel
theorem dX6_finish_161 : decode cX6_finish 161 = .ok (.istore 4, 2) := by decide +kernel
theorem dX6_finish_163 : decode cX6_finish 163 = .ok (.aload_n 0, 1) := by decide +kernel
theorem dX6_finish_164 : decode cX6_finish 164 = .ok (.getfield 7, 3) := by decide +kernel
theorem dX6_finish_167 : decode cX6_finish 167 = .ok (.bipush 37, 2) := by decide +kernel
theorem dX6_finish_169 : decode cX6_finish 169 = .ok (.iload_n 3, 1) := by decide +kernel
theorem dX6_finish_170 : decode cX6_finish 170 = .ok (.iadd, 1) := by decide +kernel
theorem dX6_finish_171 : decode cX6_finish 171 = .ok (.dup2, 1) := by decide +kernel
theorem dX6_finish_172 : decode cX6_finish 172 = .ok (.iaload, 1) := by decide +kernel
theorem dX6_finish_173 : decode cX6_finish 173 = .ok (.aload_n 0, 1) := by decide +kernel
theorem dX6_finish_174 : decode cX6_finish 174 = .ok (.getfield 27, 3) := by decide +kernel
theorem dX6_finish_177 : decode cX6_finish 177 = .ok (.iload_n 3, 1) := by decide +kernel
theorem dX6_finish_178 : decode cX6_finish 178 = .ok (.iaload, 1) := by decide +kernel
theorem dX6_finish_179 : decode cX6_finish 179 = .ok (.iload 4, 2) := by decide +kernel
theorem dX6_finish_181 : decode cX6_finish 181 = .ok (.isub, 1) := by decide +kernel
theorem dX6_finish_182 : decode cX6_finish 182 = .ok (.iadd, 1) := by decide +kernel
theorem dX6_finish_183 : decode cX6_finish 183 = .ok (.iastore, 1) := by decide +kernel
theorem dX6_finish_184 : decode cX6_finish 184 = .ok (.aload_n 0, 1) := by decide +kernel
theorem dX6_finish_185 : decode cX6_finish 185 = .ok (.getfield 7, 3) := by decide +kernel
theorem dX6_finish_188 : decode cX6_finish 188 = .ok (.iload_n 1, 1) := by decide +kernel
theorem dX6_finish_189 : decode cX6_finish 189 = .ok (.iload_n 3, 1) := by decide +kernel
theorem dX6_finish_190 : decode cX6_finish 190 = .ok (.invokestatic 83, 3) := by decide +kernel
theorem dX6_finish_193 : decode cX6_finish 193 = .ok (.iload 4, 2) := by decide +kernel
theorem dX6_finish_195 : decode cX6_finish 195 = .ok (.iastore, 1) := by decide +kernel
theorem dX6_finish_196 : decode cX6_finish 196 = .ok (.iload_n 2, 1) := by decide +kernel
theorem dX6_finish_197 : decode cX6_finish 197 = .ok (.iload 4, 2) := by decide +kernel
theorem dX6_finish_199 : decode cX6_finish 199 = .ok (.iadd, 1) := by decide +kernel
theorem dX6_finish_200 : decode cX6_finish 200 = .ok (.istore_n 2, 1) := by decide +kernel
theorem dX6_finish_201 : decode cX6_finish 201 = .ok (.iinc 3 1, 3) := by decide +kernel
theorem dX6_finish_204 : decode cX6_finish 204 = .ok (.goto (-67), 3) := by decide +kernel
theorem dX6_finish_207 : decode cX6_finish 207 = .ok (.aload_n 0, 1) := by decide +kernel
theorem dX6_finish_208 : decode cX6_finish 208 = .ok (.getfield 7, 3) := by decide +kernel
theorem dX6_finish_211 : decode cX6_finish 211 = .ok (.bipush 33, 2) := by decide +kernel
theorem dX6_finish_213 : decode cX6_finish 213 = .ok (.dup2, 1) := by decide +kernel
theorem dX6_finish_214 : decode cX6_finish 214 = .ok (.iaload, 1) := by decide +kernel
theorem dX6_finish_215 : decode cX6_finish 215 = .ok (.iload_n 2, 1) := by decide +kernel
theorem dX6_finish_216 : decode cX6_finish 216 = .ok (.iadd, 1) := by decide +kernel
theorem dX6_finish_217 : decode cX6_finish 217 = .ok (.iastore, 1) := by decide +kernel
theorem dX6_finish_218 : decode cX6_finish 218 = .ok (.aload_n 0, 1) := by decide +kernel
theorem dX6_finish_219 : decode cX6_finish 219 = .ok (.getfield 7, 3) := by decide +kernel
theorem dX6_finish_222 : decode cX6_finish 222 = .ok (.iload_n 1, 1) := by decide +kernel
theorem dX6_finish_223 : decode cX6_finish 223 = .ok (.bipush 7, 2) := by decide +kernel
theorem dX6_finish_225 : decode cX6_finish 225 = .ok (.invokestatic 83, 3) := by decide +kernel
theorem dX6_finish_228 : decode cX6_finish 228 = .ok (.dup2, 1) := by decide +kernel
theorem dX6_finish_229 : decode cX6_finish 229 = .ok (.iaload, 1) := by decide +kernel
theorem dX6_finish_230 : decode cX6_finish 230 = .ok (.iconst 1, 1) := by decide +kernel
theorem dX6_finish_231 : decode cX6_finish 231 = .ok (.iadd, 1) := by decide +kernel
theorem dX6_finish_232 : decode cX6_finish 232 = .ok (.iastore, 1) := by decide +kernel
theorem dX6_finish_233 : decode cX6_finish 233 = .ok (.aload_n 0, 1) := by decide +kernel
theorem dX6_finish_234 : decode cX6_finish 234 = .ok (.getfield 7, 3) := by decide +kernel
theorem dX6_finish_237 : decode cX6_finish 237 = .ok (.bipush 35, 2) := by decide +kernel
theorem dX6_finish_239 : decode cX6_finish 239 = .ok (.bipush (-7), 2) := by decide +kernel
theorem dX6_finish_241 : decode cX6_finish 241 = .ok (.iastore, 1) := by decide +kernel
theorem dX6_finish_242 : decode cX6_finish 242 = .ok (.iload_n 2, 1) := by decide +kernel
theorem dX6_finish_243 : decode cX6_finish 243 = .ok (.ifCond .ne 17, 3) := by decide +kernel
theorem dX6_finish_246 : decode cX6_finish 246 = .ok (.aload_n 0, 1) := by decide +kernel
theorem dX6_finish_247 : decode cX6_finish 247 = .ok (.getfield 7, 3) := by decide +kernel
theorem dX6_finish_250 : decode cX6_finish 250 = .ok (.iload_n 1, 1) := by decide +kernel
theorem dX6_finish_251 : decode cX6_finish 251 = .ok (.iconst 4, 1) := by decide +kernel
theorem dX6_finish_252 : decode cX6_finish 252 = .ok (.invokestatic 83, 3) := by decide +kernel
theorem dX6_finish_255 : decode cX6_finish 255 = .ok (.iconst 3, 1) := by decide +kernel
theorem dX6_finish_256 : decode cX6_finish 256 = .ok (.iastore, 1) := by decide +kernel
theorem dX6_finish_257 : decode cX6_finish 257 = .ok (.goto 8, 3) := by decide +kernel
theorem dX6_finish_260 : decode cX6_finish 260 = .ok (.aload_n 0, 1) := by decide +kernel
theorem dX6_finish_261 : decode cX6_finish 261 = .ok (.iload_n 1, 1) := by decide +kernel
theorem dX6_finish_262 : decode cX6_finish 262 = .ok (.invokevirtual 106, 3) := by decide +kernel
theorem dX6_finish_265 : decode cX6_finish 265 = .ok (.return_, 1) := by decide +kernel
theorem dX6_minute_0 : decode cX6_minute 0 = .ok (.aload_n 0, 1) := by decide +kernel
theorem dX6_minute_1 : decode cX6_minute 1 = .ok (.getfield 7, 3) := by decide +kernel
theorem dX6_minute_4 : decode cX6_minute 4 = .ok (.bipush 30, 2) := by decide +kernel
theorem dX6_minute_6 : decode cX6_minute 6 = .ok (.dup2, 1) := by decide +kernel
theorem dX6_minute_7 : decode cX6_minute 7 = .ok (.iaload, 1) := by decide +kernel
theorem dX6_minute_8 : decode cX6_minute 8 = .ok (.iconst 1, 1) := by decide +kernel
theorem dX6_minute_9 : decode cX6_minute 9 = .ok (.iadd, 1) := by decide +kernel
theorem dX6_minute_10 : decode cX6_minute 10 = .ok (.iastore, 1) := by decide +kernel
theorem dX6_minute_11 : decode cX6_minute 11 = .ok (.aload_n 0, 1) := by decide +kernel
theorem dX6_minute_12 : decode cX6_minute 12 = .ok (.getfield 7, 3) := by decide +kernel
theorem dX6_minute_15 : decode cX6_minute 15 = .ok (.bipush 35, 2) := by decide +kernel
theorem dX6_minute_17 : decode cX6_minute 17 = .ok (.iaload, 1) := by decide +kernel
theorem dX6_minute_18 : decode cX6_minute 18 = .ok (.ifCond .lt 24, 3) := by decide +kernel
theorem dX6_minute_21 : decode cX6_minute 21 = .ok (.aload_n 0, 1) := by decide +kernel
theorem dX6_minute_22 : decode cX6_minute 22 = .ok (.getfield 7, 3) := by decide +kernel
theorem dX6_minute_25 : decode cX6_minute 25 = .ok (.bipush 36, 2) := by decide +kernel
theorem dX6_minute_27 : decode cX6_minute 27 = .ok (.iaload, 1) := by decide +kernel
theorem dX6_minute_28 : decode cX6_minute 28 = .ok (.aload_n 0, 1) := by decide +kernel
theorem dX6_minute_29 : decode cX6_minute 29 = .ok (.getfield 7, 3) := by decide +kernel
theorem dX6_minute_32 : decode cX6_minute 32 = .ok (.bipush 30, 2) := by decide +kernel
theorem dX6_minute_34 : decode cX6_minute 34 = .ok (.iaload, 1) := by decide +kernel
theorem dX6_minute_35 : decode cX6_minute 35 = .ok (.if_icmp .ne 7, 3) := by decide +kernel
theorem dX6_minute_38 : decode cX6_minute 38 = .ok (.aload_n 0, 1) := by decide +kernel
theorem dX6_minute_39 : decode cX6_minute 39 = .ok (.invokevirtual 109, 3) := by decide +kernel
theorem dX6_minute_42 : decode cX6_minute 42 = .ok (.iconst 0, 1) := by decide +kernel
theorem dX6_minute_43 : decode cX6_minute 43 = .ok (.istore_n 1, 1) := by decide +kernel
theorem dX6_minute_44 : decode cX6_minute 44 = .ok (.iload_n 1, 1) := by decide +kernel
theorem dX6_minute_45 : decode cX6_minute 45 = .ok (.aload_n 0, 1) := by decide +kernel
theorem dX6_minute_46 : decode cX6_minute 46 = .ok (.getfield 7, 3) := by decide +kernel
theorem dX6_minute_49 : decode cX6_minute 49 = .ok (.bipush 31, 2) := by decide +kernel
theorem dX6_minute_51 : decode cX6_minute 51 = .ok (.iaload, 1) := by decide +kernel
theorem dX6_minute_52 : decode cX6_minute 52 = .ok (.if_icmp .ge 40, 3) := by decide +kernel
theorem dX6_minute_55 : decode cX6_minute 55 = .ok (.aload_n 0, 1) := by decide +kernel
theorem dX6_minute_56 : decode cX6_minute 56 = .ok (.iload_n 1, 1) := by decide +kernel
theorem dX6_minute_57 : decode cX6_minute 57 = .ok (.iconst 4, 1) := by decide +kernel
theorem dX6_minute_58 : decode cX6_minute 58 = .ok (.invokevirtual 86, 3) := by decide +kernel
theorem dX6_minute_61 : decode cX6_minute 61 = .ok (.ifCond .ne 25, 3) := by decide +kernel
theorem dX6_minute_64 : decode cX6_minute 64 = .ok (.aload_n 0, 1) := by decide +kernel
theorem dX6_minute_65 : decode cX6_minute 65 = .ok (.iload_n 1, 1) := by decide +kernel
theorem dX6_minute_66 : decode cX6_minute 66 = .ok (.bipush 6, 2) := by decide +kernel
theorem dX6_minute_68 : decode cX6_minute 68 = .ok (.invokevirtual 86, 3) := by decide +kernel
theorem dX6_minute_71 : decode cX6_minute 71 = .ok (.aload_n 0, 1) := by decide +kernel
theorem dX6_minute_72 : decode cX6_minute 72 = .ok (.getfield 7, 3) := by decide +kernel
theorem dX6_minute_75 : decode cX6_minute 75 = .ok (.bipush 30, 2) := by decide +kernel
theorem dX6_minute_77 : decode cX6_minute 77 = .ok (.iaload, 1) := by decide +kernel
theorem dX6_minute_78 : decode cX6_minute 78 = .ok (.if_icmp .ne 8, 3) := by decide +kernel
theorem dX6_minute_81 : decode cX6_minute 81 = .ok (.aload_n 0, 1) := by decide +kernel
theorem dX6_minute_82 : decode cX6_minute 82 = .ok (.iload_n 1, 1) := by decide +kernel
theorem dX6_minute_83 : decode cX6_minute 83 = .ok (.invokevirtual 106, 3) := by decide +kernel
theorem dX6_minute_86 : decode cX6_minute 86 = .ok (.iinc 1 1, 3) := by decide +kernel
theorem dX6_minute_89 : decode cX6_minute 89 = .ok (.goto (-45), 3) := by decide +kernel
theorem dX6_minute_92 : decode cX6_minute 92 = .ok (.aload_n 0, 1) := by decide +kernel
theorem dX6_minute_93 : decode cX6_minute 93 = .ok (.invokevirtual 112, 3) := by decide +kernel
theorem dX6_minute_96 : decode cX6_minute 96 = .ok (.return_, 1) := by decide +kernel
theorem dX6_isMass_0 : decode cX6_isMass 0 = .ok (.iload_n 0, 1) := by decide +kernel
theorem dX6_isMass_1 : decode cX6_isMass 1 = .ok (.iconst 0, 1) := by decide +kernel
theorem dX6_isMass_2 : decode cX6_isMass 2 = .ok (.sipush 200, 3) := by decide +kernel
theorem dX6_isMass_5 : decode cX6_isMass 5 = .ok (.invokestatic 30, 3) := by decide +kernel
theorem dX6_isMass_8 : decode cX6_isMass 8 = .ok (.ireturn, 1) := by decide +kernel
theorem dX6_areMasses_0 : decode cX6_areMasses 0 = .ok (.iload_n 0, 1) := by decide +kernel
theorem dX6_areMasses_1 : decode cX6_areMasses 1 = .ok (.invokestatic 115, 3) := by decide +kernel
theorem dX6_areMasses_4 : decode cX6_areMasses 4 = .ok (.ifCond .eq 38, 3) := by decide +kernel
theorem dX6_areMasses_7 : decode cX6_areMasses 7 = .ok (.iload_n 1, 1) := by decide +kernel
theorem dX6_areMasses_8 : decode cX6_areMasses 8 = .ok (.invokestatic 115, 3) := by decide +kernel
theorem dX6_areMasses_11 : decode cX6_areMasses 11 = .ok (.ifCond .eq 31, 3) := by decide +kernel
theorem dX6_areMasses_14 : decode cX6_areMasses 14 = .ok (.iload_n 2, 1) := by decide +kernel
theorem dX6_areMasses_15 : decode cX6_areMasses 15 = .ok (.invokestatic 115, 3) := by decide +kernel
theorem dX6_areMasses_18 : decode cX6_areMasses 18 = .ok (.ifCond .eq 24, 3) := by decide +kernel
theorem dX6_areMasses_21 : decode cX6_areMasses 21 = .ok (.iload_n 3, 1) := by decide +kernel
theorem dX6_areMasses_22 : decode cX6_areMasses 22 = .ok (.invokestatic 115, 3) := by decide +kernel
theorem dX6_areMasses_25 : decode cX6_areMasses 25 = .ok (.ifCond .eq 17, 3) := by decide +kernel
theorem dX6_areMasses_28 : decode cX6_areMasses 28 = .ok (.iload_n 0, 1) := by decide +kernel
theorem dX6_areMasses_29 : decode cX6_areMasses 29 = .ok (.iload_n 1, 1) := by decide +kernel
theorem dX6_areMasses_30 : decode cX6_areMasses 30 = .ok (.iadd, 1) := by decide +kernel
theorem dX6_areMasses_31 : decode cX6_areMasses 31 = .ok (.iload_n 2, 1) := by decide +kernel
theorem dX6_areMasses_32 : decode cX6_areMasses 32 = .ok (.iadd, 1) := by decide +kernel
theorem dX6_areMasses_33 : decode cX6_areMasses 33 = .ok (.iload_n 3, 1) := by decide +kernel
theorem dX6_areMasses_34 : decode cX6_areMasses 34 = .ok (.iadd, 1) := by decide +kernel
theorem dX6_areMasses_35 : decode cX6_areMasses 35 = .ok (.ifCond .le 7, 3) := by decide +kernel
theorem dX6_areMasses_38 : decode cX6_areMasses 38 = .ok (.iconst 1, 1) := by decide +kernel
theorem dX6_areMasses_39 : decode cX6_areMasses 39 = .ok (.goto 4, 3) := by decide +kernel
theorem dX6_areMasses_42 : decode cX6_areMasses 42 = .ok (.iconst 0, 1) := by decide +kernel
theorem dX6_areMasses_43 : decode cX6_areMasses 43 = .ok (.ireturn, 1) := by decide +kernel
theorem dX6_make_0 : decode cX6_make 0 = .ok (.aload_n 0, 1) := by decide +kernel
theorem dX6_make_1 : decode cX6_make 1 = .ok (.getfield 7, 3) := by decide +kernel
theorem dX6_make_4 : decode cX6_make 4 = .ok (.bipush 31, 2) := by decide +kernel
theorem dX6_make_6 : decode cX6_make 6 = .ok (.iaload, 1) := by decide +kernel
theorem dX6_make_7 : decode cX6_make 7 = .ok (.istore 5, 2) := by decide +kernel
theorem dX6_make_9 : decode cX6_make 9 = .ok (.aload_n 0, 1) := by decide +kernel
theorem dX6_make_10 : decode cX6_make 10 = .ok (.getfield 7, 3) := by decide +kernel
theorem dX6_make_13 : decode cX6_make 13 = .ok (.iload 5, 2) := by decide +kernel
theorem dX6_make_15 : decode cX6_make 15 = .ok (.iconst 0, 1) := by decide +kernel
theorem dX6_make_16 : decode cX6_make 16 = .ok (.invokestatic 83, 3) := by decide +kernel
theorem dX6_make_19 : decode cX6_make 19 = .ok (.iload_n 1, 1) := by decide +kernel
theorem dX6_make_20 : decode cX6_make 20 = .ok (.iastore, 1) := by decide +kernel
theorem dX6_make_21 : decode cX6_make 21 = .ok (.aload_n 0, 1) := by decide +kernel
theorem dX6_make_22 : decode cX6_make 22 = .ok (.getfield 7, 3) := by decide +kernel
theorem dX6_make_25 : decode cX6_make 25 = .ok (.iload 5, 2) := by decide +kernel
theorem dX6_make_27 : decode cX6_make 27 = .ok (.iconst 1, 1) := by decide +kernel
theorem dX6_make_28 : decode cX6_make 28 = .ok (.invokestatic 83, 3) := by decide +kernel
theorem dX6_make_31 : decode cX6_make 31 = .ok (.iload_n 2, 1) := by decide +kernel
theorem dX6_make_32 : decode cX6_make 32 = .ok (.iastore, 1) := by decide +kernel
theorem dX6_make_33 : decode cX6_make 33 = .ok (.aload_n 0, 1) := by decide +kernel
theorem dX6_make_34 : decode cX6_make 34 = .ok (.getfield 7, 3) := by decide +kernel
theorem dX6_make_37 : decode cX6_make 37 = .ok (.iload 5, 2) := by decide +kernel
theorem dX6_make_39 : decode cX6_make 39 = .ok (.iconst 2, 1) := by decide +kernel
theorem dX6_make_40 : decode cX6_make 40 = .ok (.invokestatic 83, 3) := by decide +kernel
theorem dX6_make_43 : decode cX6_make 43 = .ok (.iload_n 3, 1) := by decide +kernel
theorem dX6_make_44 : decode cX6_make 44 = .ok (.iastore, 1) := by decide +kernel
theorem dX6_make_45 : decode cX6_make 45 = .ok (.aload_n 0, 1) := by decide +kernel
theorem dX6_make_46 : decode cX6_make 46 = .ok (.getfield 7, 3) := by decide +kernel
theorem dX6_make_49 : decode cX6_make 49 = .ok (.iload 5, 2) := by decide +kernel
theorem dX6_make_51 : decode cX6_make 51 = .ok (.iconst 3, 1) := by decide +kernel
theorem dX6_make_52 : decode cX6_make 52 = .ok (.invokestatic 83, 3) := by decide +kernel
theorem dX6_make_55 : decode cX6_make 55 = .ok (.iload 4, 2) := by decide +kernel
theorem dX6_make_57 : decode cX6_make 57 = .ok (.iastore, 1) := by decide +kernel
theorem dX6_make_58 : decode cX6_make 58 = .ok (.aload_n 0, 1) := by decide +kernel
theorem dX6_make_59 : decode cX6_make 59 = .ok (.getfield 7, 3) := by decide +kernel
theorem dX6_make_62 : decode cX6_make 62 = .ok (.iload 5, 2) := by decide +kernel
theorem dX6_make_64 : decode cX6_make 64 = .ok (.iconst 4, 1) := by decide +kernel
theorem dX6_make_65 : decode cX6_make 65 = .ok (.invokestatic 83, 3) := by decide +kernel
theorem dX6_make_68 : decode cX6_make 68 = .ok (.iconst 0, 1) := by decide +kernel
theorem dX6_make_69 : decode cX6_make 69 = .ok (.iastore, 1) := by decide +kernel
theorem dX6_make_70 : decode cX6_make 70 = .ok (.aload_n 0, 1) := by decide +kernel
theorem dX6_make_71 : decode cX6_make 71 = .ok (.getfield 7, 3) := by decide +kernel
theorem dX6_make_74 : decode cX6_make 74 = .ok (.iload 5, 2) := by decide +kernel
theorem dX6_make_76 : decode cX6_make 76 = .ok (.bipush 6, 2) := by decide +kernel
theorem dX6_make_78 : decode cX6_make 78 = .ok (.invokestatic 83, 3) := by decide +kernel
theorem dX6_make_81 : decode cX6_make 81 = .ok (.bipush (-7), 2) := by decide +kernel
theorem dX6_make_83 : decode cX6_make 83 = .ok (.iastore, 1) := by decide +kernel
theorem dX6_make_84 : decode cX6_make 84 = .ok (.aload_n 0, 1) := by decide +kernel
theorem dX6_make_85 : decode cX6_make 85 = .ok (.getfield 7, 3) := by decide +kernel
theorem dX6_make_88 : decode cX6_make 88 = .ok (.iload 5, 2) := by decide +kernel
theorem dX6_make_90 : decode cX6_make 90 = .ok (.bipush 7, 2) := by decide +kernel
theorem dX6_make_92 : decode cX6_make 92 = .ok (.invokestatic 83, 3) := by decide +kernel
theorem dX6_make_95 : decode cX6_make 95 = .ok (.iconst 0, 1) := by decide +kernel
theorem dX6_make_96 : decode cX6_make 96 = .ok (.iastore, 1) := by decide +kernel
theorem dX6_make_97 : decode cX6_make 97 = .ok (.aload_n 0, 1) := by decide +kernel
theorem dX6_make_98 : decode cX6_make 98 = .ok (.getfield 7, 3) := by decide +kernel
theorem dX6_make_101 : decode cX6_make 101 = .ok (.bipush 31, 2) := by decide +kernel
theorem dX6_make_103 : decode cX6_make 103 = .ok (.dup2, 1) := by decide +kernel
theorem dX6_make_104 : decode cX6_make 104 = .ok (.iaload, 1) := by decide +kernel
theorem dX6_make_105 : decode cX6_make 105 = .ok (.iconst 1, 1) := by decide +kernel
theorem dX6_make_106 : decode cX6_make 106 = .ok (.iadd, 1) := by decide +kernel
theorem dX6_make_107 : decode cX6_make 107 = .ok (.iastore, 1) := by decide +kernel
theorem dX6_make_108 : decode cX6_make 108 = .ok (.iload 5, 2) := by decide +kernel
theorem dX6_make_110 : decode cX6_make 110 = .ok (.ireturn, 1) := by decide +kernel
theorem dX6_addLot_0 : decode cX6_addLot 0 = .ok (.iload_n 1, 1) := by decide +kernel
theorem dX6_addLot_1 : decode cX6_addLot 1 = .ok (.iload_n 2, 1) := by decide +kernel
theorem dX6_addLot_2 : decode cX6_addLot 2 = .ok (.iload_n 3, 1) := by decide +kernel
theorem dX6_addLot_3 : decode cX6_addLot 3 = .ok (.iload 4, 2) := by decide +kernel
theorem dX6_addLot_5 : decode cX6_addLot 5 = .ok (.invokestatic 118, 3) := by decide +kernel
theorem dX6_addLot_8 : decode cX6_addLot 8 = .ok (.ifCond .ne 6, 3) := by decide +kernel
theorem dX6_addLot_11 : decode cX6_addLot 11 = .ok (.bipush (-3), 2) := by decide +kernel
theorem dX6_addLot_13 : decode cX6_addLot 13 = .ok (.ireturn, 1) := by decide +kernel
theorem dX6_addLot_14 : decode cX6_addLot 14 = .ok (.aload_n 0, 1) := by decide +kernel
theorem dX6_addLot_15 : decode cX6_addLot 15 = .ok (.getfield 7, 3) := by decide +kernel
theorem dX6_addLot_18 : decode cX6_addLot 18 = .ok (.bipush 31, 2) := by decide +kernel
theorem dX6_addLot_20 : decode cX6_addLot 20 = .ok (.iaload, 1) := by decide +kernel
theorem dX6_addLot_21 : decode cX6_addLot 21 = .ok (.bipush 40, 2) := by decide +kernel
theorem dX6_addLot_23 : decode cX6_addLot 23 = .ok (.if_icmp .ne 6, 3) := by decide +kernel
theorem dX6_addLot_26 : decode cX6_addLot 26 = .ok (.bipush (-4), 2) := by decide +kernel
theorem dX6_addLot_28 : decode cX6_addLot 28 = .ok (.ireturn, 1) := by decide +kernel
theorem dX6_addLot_29 : decode cX6_addLot 29 = .ok (.aload_n 0, 1) := by decide +kernel
theorem dX6_addLot_30 : decode cX6_addLot 30 = .ok (.iload_n 1, 1) := by decide +kernel
theorem dX6_addLot_31 : decode cX6_addLot 31 = .ok (.iload_n 2, 1) := by decide +kernel
theorem dX6_addLot_32 : decode cX6_addLot 32 = .ok (.iload_n 3, 1) := by decide +kernel
theorem dX6_addLot_33 : decode cX6_addLot 33 = .ok (.iload 4, 2) := by decide +kernel
theorem dX6_addLot_35 : decode cX6_addLot 35 = .ok (.invokevirtual 122, 3) := by decide +kernel
theorem dX6_addLot_38 : decode cX6_addLot 38 = .ok (.istore 5, 2) := by decide +kernel
theorem dX6_addLot_40 : decode cX6_addLot 40 = .ok (.aload_n 0, 1) := by decide +kernel
theorem dX6_addLot_41 : decode cX6_addLot 41 = .ok (.iload 5, 2) := by decide +kernel
theorem dX6_addLot_43 : decode cX6_addLot 43 = .ok (.invokevirtual 106, 3) := by decide +kernel
theorem dX6_addLot_46 : decode cX6_addLot 46 = .ok (.aload_n 0, 1) := by decide +kernel
theorem dX6_addLot_47 : decode cX6_addLot 47 = .ok (.invokevirtual 112, 3) := by decide +kernel
theorem dX6_addLot_50 : decode cX6_addLot 50 = .ok (.iload 5, 2) := by decide +kernel
theorem dX6_addLot_52 : decode cX6_addLot 52 = .ok (.ireturn, 1) := by decide +kernel
theorem dX6_planLot_0 : decode cX6_planLot 0 = .ok (.iload_n 1, 1) := by decide +kernel
theorem dX6_planLot_1 : decode cX6_planLot 1 = .ok (.iconst 1, 1) := by decide +kernel
theorem dX6_planLot_2 : decode cX6_planLot 2 = .ok (.sipush 1000, 3) := by decide +kernel
theorem dX6_planLot_5 : decode cX6_planLot 5 = .ok (.invokestatic 30, 3) := by decide +kernel
theorem dX6_planLot_8 : decode cX6_planLot 8 = .ok (.ifCond .eq 15, 3) := by decide +kernel
theorem dX6_planLot_11 : decode cX6_planLot 11 = .ok (.iload_n 2, 1) := by decide +kernel
theorem dX6_planLot_12 : decode cX6_planLot 12 = .ok (.iload_n 3, 1) := by decide +kernel
theorem dX6_planLot_13 : decode cX6_planLot 13 = .ok (.iload 4, 2) := by decide +kernel
theorem dX6_planLot_15 : decode cX6_planLot 15 = .ok (.iload 5, 2) := by decide +kernel
theorem dX6_planLot_17 : decode cX6_planLot 17 = .ok (.invokestatic 118, 3) := by decide +kernel
theorem dX6_planLot_20 : decode cX6_planLot 20 = .ok (.ifCond .ne 6, 3) := by decide +kernel
theorem dX6_planLot_23 : decode cX6_planLot 23 = .ok (.bipush (-3), 2) := by decide +kernel
theorem dX6_planLot_25 : decode cX6_planLot 25 = .ok (.ireturn, 1) := by decide +kernel
theorem dX6_planLot_26 : decode cX6_planLot 26 = .ok (.aload_n 0, 1) := by decide +kernel
theorem dX6_planLot_27 : decode cX6_planLot 27 = .ok (.getfield 7, 3) := by decide +kernel
theorem dX6_planLot_30 : decode cX6_planLot 30 = .ok (.bipush 31, 2) := by decide +kernel
theorem dX6_planLot_32 : decode cX6_planLot 32 = .ok (.iaload, 1) := by decide +kernel
theorem dX6_planLot_33 : decode cX6_planLot 33 = .ok (.bipush 40, 2) := by decide +kernel
theorem dX6_planLot_35 : decode cX6_planLot 35 = .ok (.if_icmp .ne 6, 3) := by decide +kernel
theorem dX6_planLot_38 : decode cX6_planLot 38 = .ok (.bipush (-4), 2) := by decide +kernel
theorem dX6_planLot_40 : decode cX6_planLot 40 = .ok (.ireturn, 1) := by decide +kernel
theorem dX6_planLot_41 : decode cX6_planLot 41 = .ok (.aload_n 0, 1) := by decide +kernel
theorem dX6_planLot_42 : decode cX6_planLot 42 = .ok (.iload_n 2, 1) := by decide +kernel
theorem dX6_planLot_43 : decode cX6_planLot 43 = .ok (.iload_n 3, 1) := by decide +kernel
theorem dX6_planLot_44 : decode cX6_planLot 44 = .ok (.iload 4, 2) := by decide +kernel
theorem dX6_planLot_46 : decode cX6_planLot 46 = .ok (.iload 5, 2) := by decide +kernel
theorem dX6_planLot_48 : decode cX6_planLot 48 = .ok (.invokevirtual 122, 3) := by decide +kernel
theorem dX6_planLot_51 : decode cX6_planLot 51 = .ok (.istore 6, 2) := by decide +kernel
theorem dX6_planLot_53 : decode cX6_planLot 53 = .ok (.aload_n 0, 1) := by decide +kernel
theorem dX6_planLot_54 : decode cX6_planLot 54 = .ok (.getfield 7, 3) := by decide +kernel
theorem dX6_planLot_57 : decode cX6_planLot 57 = .ok (.iload 6, 2) := by decide +kernel
theorem dX6_planLot_59 : decode cX6_planLot 59 = .ok (.bipush 6, 2) := by decide +kernel
theorem dX6_planLot_61 : decode cX6_planLot 61 = .ok (.invokestatic 83, 3) := by decide +kernel
theorem dX6_planLot_64 : decode cX6_planLot 64 = .ok (.aload_n 0, 1) := by decide +kernel
theorem dX6_planLot_65 : decode cX6_planLot 65 = .ok (.getfield 7, 3) := by decide +kernel
theorem dX6_planLot_68 : decode cX6_planLot 68 = .ok (.bipush 30, 2) := by decide +kernel
theorem dX6_planLot_70 : decode cX6_planLot 70 = .ok (.iaload, 1) := by decide +kernel
theorem dX6_planLot_71 : decode cX6_planLot 71 = .ok (.iload_n 1, 1) := by decide +kernel
theorem dX6_planLot_72 : decode cX6_planLot 72 = .ok (.iadd, 1) := by decide +kernel
theorem dX6_planLot_73 : decode cX6_planLot 73 = .ok (.iastore, 1) := by decide +kernel
theorem dX6_planLot_74 : decode cX6_planLot 74 = .ok (.iload 6, 2) := by decide +kernel
theorem dX6_planLot_76 : decode cX6_planLot 76 = .ok (.ireturn, 1) := by decide +kernel
theorem dX6_advance_0 : decode cX6_advance 0 = .ok (.iload_n 1, 1) := by decide +kernel
theorem dX6_advance_1 : decode cX6_advance 1 = .ok (.iconst 1, 1) := by decide +kernel
theorem dX6_advance_2 : decode cX6_advance 2 = .ok (.sipush 500, 3) := by decide +kernel
theorem dX6_advance_5 : decode cX6_advance 5 = .ok (.invokestatic 30, 3) := by decide +kernel
theorem dX6_advance_8 : decode cX6_advance 8 = .ok (.ifCond .ne 6, 3) := by decide +kernel
theorem dX6_advance_11 : decode cX6_advance 11 = .ok (.bipush (-3), 2) := by decide +kernel
theorem dX6_advance_13 : decode cX6_advance 13 = .ok (.ireturn, 1) := by decide +kernel
theorem dX6_advance_14 : decode cX6_advance 14 = .ok (.iconst 0, 1) := by decide +kernel
theorem dX6_advance_15 : decode cX6_advance 15 = .ok (.istore_n 2, 1) := by decide +kernel
theorem dX6_advance_16 : decode cX6_advance 16 = .ok (.iload_n 2, 1) := by decide +kernel
theorem dX6_advance_17 : decode cX6_advance 17 = .ok (.iload_n 1, 1) := by decide +kernel
theorem dX6_advance_18 : decode cX6_advance 18 = .ok (.if_icmp .ge 13, 3) := by decide +kernel
theorem dX6_advance_21 : decode cX6_advance 21 = .ok (.aload_n 0, 1) := by decide +kernel
theorem dX6_advance_22 : decode cX6_advance 22 = .ok (.invokevirtual 126, 3) := by decide +kernel
theorem dX6_advance_25 : decode cX6_advance 25 = .ok (.iinc 2 1, 3) := by decide +kernel
theorem dX6_advance_28 : decode cX6_advance 28 = .ok (.goto (-12), 3) := by decide +kernel
theorem dX6_advance_31 : decode cX6_advance 31 = .ok (.aload_n 0, 1) := by decide +kernel
theorem dX6_advance_32 : decode cX6_advance 32 = .ok (.getfield 7, 3) := by decide +kernel
theorem dX6_advance_35 : decode cX6_advance 35 = .ok (.bipush 30, 2) := by decide +kernel
theorem dX6_advance_37 : decode cX6_advance 37 = .ok (.iaload, 1) := by decide +kernel
theorem dX6_advance_38 : decode cX6_advance 38 = .ok (.ireturn, 1) := by decide +kernel
theorem dX6_setRate_0 : decode cX6_setRate 0 = .ok (.iload_n 1, 1) := by decide +kernel
theorem dX6_setRate_1 : decode cX6_setRate 1 = .ok (.iconst 1, 1) := by decide +kernel
theorem dX6_setRate_2 : decode cX6_setRate 2 = .ok (.bipush 100, 2) := by decide +kernel
theorem dX6_setRate_4 : decode cX6_setRate 4 = .ok (.invokestatic 30, 3) := by decide +kernel
theorem dX6_setRate_7 : decode cX6_setRate 7 = .ok (.ifCond .eq 13, 3) := by decide +kernel
theorem dX6_setRate_10 : decode cX6_setRate 10 = .ok (.aload_n 0, 1) := by decide +kernel
theorem dX6_setRate_11 : decode cX6_setRate 11 = .ok (.bipush 28, 2) := by decide +kernel
theorem dX6_setRate_13 : decode cX6_setRate 13 = .ok (.iload_n 1, 1) := by decide +kernel
theorem dX6_setRate_14 : decode cX6_setRate 14 = .ok (.invokevirtual 42, 3) := by decide +kernel
theorem dX6_setRate_17 : decode cX6_setRate 17 = .ok (.goto 5, 3) := by decide +kernel
theorem dX6_setRate_20 : decode cX6_setRate 20 = .ok (.bipush (-3), 2) := by decide +kernel
theorem dX6_setRate_22 : decode cX6_setRate 22 = .ok (.ireturn, 1) := by decide +kernel
theorem dX6_setRule_0 : decode cX6_setRule 0 = .ok (.iload_n 1, 1) := by decide +kernel
theorem dX6_setRule_1 : decode cX6_setRule 1 = .ok (.iconst 0, 1) := by decide +kernel
theorem dX6_setRule_2 : decode cX6_setRule 2 = .ok (.iconst 2, 1) := by decide +kernel
theorem dX6_setRule_3 : decode cX6_setRule 3 = .ok (.invokestatic 30, 3) := by decide +kernel
theorem dX6_setRule_6 : decode cX6_setRule 6 = .ok (.ifCond .eq 13, 3) := by decide +kernel
theorem dX6_setRule_9 : decode cX6_setRule 9 = .ok (.aload_n 0, 1) := by decide +kernel
theorem dX6_setRule_10 : decode cX6_setRule 10 = .ok (.bipush 29, 2) := by decide +kernel
theorem dX6_setRule_12 : decode cX6_setRule 12 = .ok (.iload_n 1, 1) := by decide +kernel
theorem dX6_setRule_13 : decode cX6_setRule 13 = .ok (.invokevirtual 42, 3) := by decide +kernel
theorem dX6_setRule_16 : decode cX6_setRule 16 = .ok (.goto 5, 3) := by decide +kernel
theorem dX6_setRule_19 : decode cX6_setRule 19 = .ok (.bipush (-3), 2) := by decide +kernel
theorem dX6_setRule_21 : decode cX6_setRule 21 = .ok (.ireturn, 1) := by decide +kernel
theorem dX6_bin_0 : decode cX6_bin 0 = .ok (.iload_n 1, 1) := by decide +kernel
theorem dX6_bin_1 : decode cX6_bin 1 = .ok (.iconst (-1), 1) := by decide +kernel
theorem dX6_bin_2 : decode cX6_bin 2 = .ok (.if_icmp .eq 18, 3) := by decide +kernel
theorem dX6_bin_5 : decode cX6_bin 5 = .ok (.iload_n 1, 1) := by decide +kernel
theorem dX6_bin_6 : decode cX6_bin 6 = .ok (.ifCond .ge 8, 3) := by decide +kernel
theorem dX6_bin_9 : decode cX6_bin 9 = .ok (.bipush (-7), 2) := by decide +kernel
theorem dX6_bin_11 : decode cX6_bin 11 = .ok (.goto 8, 3) := by decide +kernel
theorem dX6_bin_14 : decode cX6_bin 14 = .ok (.aload_n 0, 1) := by decide +kernel
theorem dX6_bin_15 : decode cX6_bin 15 = .ok (.iload_n 1, 1) := by decide +kernel
theorem dX6_bin_16 : decode cX6_bin 16 = .ok (.invokevirtual 103, 3) := by decide +kernel
theorem dX6_bin_19 : decode cX6_bin 19 = .ok (.ireturn, 1) := by decide +kernel
theorem dX6_bin_20 : decode cX6_bin 20 = .ok (.iconst 0, 1) := by decide +kernel
theorem dX6_bin_21 : decode cX6_bin 21 = .ok (.istore_n 2, 1) := by decide +kernel
theorem dX6_bin_22 : decode cX6_bin 22 = .ok (.iconst 0, 1) := by decide +kernel
theorem dX6_bin_23 : decode cX6_bin 23 = .ok (.istore_n 3, 1) := by decide +kernel
theorem dX6_bin_24 : decode cX6_bin 24 = .ok (.iload_n 3, 1) := by decide +kernel
theorem dX6_bin_25 : decode cX6_bin 25 = .ok (.aload_n 0, 1) := by decide +kernel
theorem dX6_bin_26 : decode cX6_bin 26 = .ok (.getfield 7, 3) := by decide +kernel
theorem dX6_bin_29 : decode cX6_bin 29 = .ok (.bipush 31, 2) := by decide +kernel
theorem dX6_bin_31 : decode cX6_bin 31 = .ok (.iaload, 1) := by decide +kernel
theorem dX6_bin_32 : decode cX6_bin 32 = .ok (.if_icmp .ge 27, 3) := by decide +kernel
theorem dX6_bin_35 : decode cX6_bin 35 = .ok (.iload_n 2, 1) := by decide +kernel
theorem dX6_bin_36 : decode cX6_bin 36 = .ok (.aload_n 0, 1) := by decide +kernel
theorem dX6_bin_37 : decode cX6_bin 37 = .ok (.iload_n 3, 1) := by decide +kernel
theorem dX6_bin_38 : decode cX6_bin 38 = .ok (.iconst 4, 1) := by decide +kernel
theorem dX6_bin_39 : decode cX6_bin 39 = .ok (.invokevirtual 86, 3) := by decide +kernel
theorem dX6_bin_42 : decode cX6_bin 42 = .ok (.iconst 1, 1) := by decide +kernel
theorem dX6_bin_43 : decode cX6_bin 43 = .ok (.if_icmp .ne 7, 3) := by decide +kernel
theorem dX6_bin_46 : decode cX6_bin 46 = .ok (.iconst 1, 1) := by decide +kernel
theorem dX6_bin_47 : decode cX6_bin 47 = .ok (.goto 4, 3) := by decide +kernel
theorem dX6_bin_50 : decode cX6_bin 50 = .ok (.iconst 0, 1) := by decide +kernel
theorem dX6_bin_51 : decode cX6_bin 51 = .ok (.iadd, 1) := by decide +kernel
theorem dX6_bin_52 : decode cX6_bin 52 = .ok (.istore_n 2, 1) := by decide +kernel
theorem dX6_bin_53 : decode cX6_bin 53 = .ok (.iinc 3 1, 3) := by decide +kernel
theorem dX6_bin_56 : decode cX6_bin 56 = .ok (.goto (-32), 3) := by decide +kernel
theorem dX6_bin_59 : decode cX6_bin 59 = .ok (.iload_n 2, 1) := by decide +kernel
theorem dX6_bin_60 : decode cX6_bin 60 = .ok (.ireturn, 1) := by decide +kernel
theorem dX6_mill_0 : decode cX6_mill 0 = .ok (.iload_n 1, 1) := by decide +kernel
theorem dX6_mill_1 : decode cX6_mill 1 = .ok (.iconst 0, 1) := by decide +kernel
theorem dX6_mill_2 : decode cX6_mill 2 = .ok (.iconst 1, 1) := by decide +kernel
theorem dX6_mill_3 : decode cX6_mill 3 = .ok (.invokestatic 30, 3) := by decide +kernel
theorem dX6_mill_6 : decode cX6_mill 6 = .ok (.ifCond .ne 6, 3) := by decide +kernel
theorem dX6_mill_9 : decode cX6_mill 9 = .ok (.bipush (-3), 2) := by decide +kernel
theorem dX6_mill_11 : decode cX6_mill 11 = .ok (.ireturn, 1) := by decide +kernel
theorem dX6_mill_12 : decode cX6_mill 12 = .ok (.aload_n 0, 1) := by decide +kernel
theorem dX6_mill_13 : decode cX6_mill 13 = .ok (.getfield 7, 3) := by decide +kernel
theorem dX6_mill_16 : decode cX6_mill 16 = .ok (.bipush 35, 2) := by decide +kernel
theorem dX6_mill_18 : decode cX6_mill 18 = .ok (.iaload, 1) := by decide +kernel
theorem dX6_mill_19 : decode cX6_mill 19 = .ok (.ifCond .ge 8, 3) := by decide +kernel
theorem dX6_mill_22 : decode cX6_mill 22 = .ok (.bipush (-7), 2) := by decide +kernel
theorem dX6_mill_24 : decode cX6_mill 24 = .ok (.goto 32, 3) := by decide +kernel
theorem dX6_mill_27 : decode cX6_mill 27 = .ok (.iload_n 1, 1) := by decide +kernel
theorem dX6_mill_28 : decode cX6_mill 28 = .ok (.ifCond .ne 13, 3) := by decide +kernel
theorem dX6_mill_31 : decode cX6_mill 31 = .ok (.aload_n 0, 1) := by decide +kernel
theorem dX6_mill_32 : decode cX6_mill 32 = .ok (.getfield 7, 3) := by decide +kernel
theorem dX6_mill_35 : decode cX6_mill 35 = .ok (.bipush 35, 2) := by decide +kernel
theorem dX6_mill_37 : decode cX6_mill 37 = .ok (.iaload, 1) := by decide +kernel
theorem dX6_mill_38 : decode cX6_mill 38 = .ok (.goto 18, 3) := by decide +kernel
theorem dX6_mill_41 : decode cX6_mill 41 = .ok (.aload_n 0, 1) := by decide +kernel
theorem dX6_mill_42 : decode cX6_mill 42 = .ok (.getfield 7, 3) := by decide +kernel
theorem dX6_mill_45 : decode cX6_mill 45 = .ok (.bipush 36, 2) := by decide +kernel
theorem dX6_mill_47 : decode cX6_mill 47 = .ok (.iaload, 1) := by decide +kernel
theorem dX6_mill_48 : decode cX6_mill 48 = .ok (.aload_n 0, 1) := by decide +kernel
theorem dX6_mill_49 : decode cX6_mill 49 = .ok (.getfield 7, 3) := by decide +kernel
theorem dX6_mill_52 : decode cX6_mill 52 = .ok (.bipush 30, 2) := by decide +kernel
theorem dX6_mill_54 : decode cX6_mill 54 = .ok (.iaload, 1) := by decide +kernel
theorem dX6_mill_55 : decode cX6_mill 55 = .ok (.isub, 1) := by decide +kernel
theorem dX6_mill_56 : decode cX6_mill 56 = .ok (.ireturn, 1) := by decide +kernel
theorem dX6_isLot_0 : decode cX6_isLot 0 = .ok (.iload_n 1, 1) := by decide +kernel
theorem dX6_isLot_1 : decode cX6_isLot 1 = .ok (.iconst 0, 1) := by decide +kernel
theorem dX6_isLot_2 : decode cX6_isLot 2 = .ok (.aload_n 0, 1) := by decide +kernel
theorem dX6_isLot_3 : decode cX6_isLot 3 = .ok (.getfield 7, 3) := by decide +kernel
theorem dX6_isLot_6 : decode cX6_isLot 6 = .ok (.bipush 31, 2) := by decide +kernel
theorem dX6_isLot_8 : decode cX6_isLot 8 = .ok (.iaload, 1) := by decide +kernel
theorem dX6_isLot_9 : decode cX6_isLot 9 = .ok (.iconst 1, 1) := by decide +kernel
theorem dX6_isLot_10 : decode cX6_isLot 10 = .ok (.isub, 1) := by decide +kernel
theorem dX6_isLot_11 : decode cX6_isLot 11 = .ok (.invokestatic 30, 3) := by decide +kernel
theorem dX6_isLot_14 : decode cX6_isLot 14 = .ok (.ireturn, 1) := by decide +kernel
theorem dX6_state_0 : decode cX6_state 0 = .ok (.aload_n 0, 1) := by decide +kernel
theorem dX6_state_1 : decode cX6_state 1 = .ok (.iload_n 1, 1) := by decide +kernel
theorem dX6_state_2 : decode cX6_state 2 = .ok (.invokevirtual 129, 3) := by decide +kernel
theorem dX6_state_5 : decode cX6_state 5 = .ok (.ifCond .eq 12, 3) := by decide +kernel
theorem dX6_state_8 : decode cX6_state 8 = .ok (.aload_n 0, 1) := by decide +kernel
theorem dX6_state_9 : decode cX6_state 9 = .ok (.iload_n 1, 1) := by decide +kernel
theorem dX6_state_10 : decode cX6_state 10 = .ok (.iconst 4, 1) := by decide +kernel
theorem dX6_state_11 : decode cX6_state 11 = .ok (.invokevirtual 86, 3) := by decide +kernel
theorem dX6_state_14 : decode cX6_state 14 = .ok (.goto 5, 3) := by decide +kernel
theorem dX6_state_17 : decode cX6_state 17 = .ok (.bipush (-2), 2) := by decide +kernel
theorem dX6_state_19 : decode cX6_state 19 = .ok (.ireturn, 1) := by decide +kernel
theorem dX6_mass_0 : decode cX6_mass 0 = .ok (.aload_n 0, 1) := by decide +kernel
theorem dX6_mass_1 : decode cX6_mass 1 = .ok (.iload_n 1, 1) := by decide +kernel
theorem dX6_mass_2 : decode cX6_mass 2 = .ok (.invokevirtual 129, 3) := by decide +kernel
theorem dX6_mass_5 : decode cX6_mass 5 = .ok (.ifCond .ne 6, 3) := by decide +kernel
theorem dX6_mass_8 : decode cX6_mass 8 = .ok (.bipush (-2), 2) := by decide +kernel
theorem dX6_mass_10 : decode cX6_mass 10 = .ok (.ireturn, 1) := by decide +kernel
theorem dX6_mass_11 : decode cX6_mass 11 = .ok (.iload_n 2, 1) := by decide +kernel
theorem dX6_mass_12 : decode cX6_mass 12 = .ok (.iconst (-1), 1) := by decide +kernel
theorem dX6_mass_13 : decode cX6_mass 13 = .ok (.if_icmp .ne 11, 3) := by decide +kernel
theorem dX6_mass_16 : decode cX6_mass 16 = .ok (.aload_n 0, 1) := by decide +kernel
theorem dX6_mass_17 : decode cX6_mass 17 = .ok (.iload_n 1, 1) := by decide +kernel
theorem dX6_mass_18 : decode cX6_mass 18 = .ok (.invokevirtual 89, 3) := by decide +kernel
theorem dX6_mass_21 : decode cX6_mass 21 = .ok (.goto 20, 3) := by decide +kernel
theorem dX6_mass_24 : decode cX6_mass 24 = .ok (.iload_n 2, 1) := by decide +kernel
theorem dX6_mass_25 : decode cX6_mass 25 = .ok (.invokestatic 34, 3) := by decide +kernel
theorem dX6_mass_28 : decode cX6_mass 28 = .ok (.ifCond .eq 12, 3) := by decide +kernel
theorem dX6_mass_31 : decode cX6_mass 31 = .ok (.aload_n 0, 1) := by decide +kernel
theorem dX6_mass_32 : decode cX6_mass 32 = .ok (.iload_n 1, 1) := by decide +kernel
theorem dX6_mass_33 : decode cX6_mass 33 = .ok (.iload_n 2, 1) := by decide +kernel
theorem dX6_mass_34 : decode cX6_mass 34 = .ok (.invokevirtual 86, 3) := by decide +kernel
theorem dX6_mass_37 : decode cX6_mass 37 = .ok (.goto 4, 3) := by decide +kernel
theorem dX6_mass_40 : decode cX6_mass 40 = .ok (.iconst (-1), 1) := by decide +kernel
theorem dX6_mass_41 : decode cX6_mass 41 = .ok (.ireturn, 1) := by decide +kernel
theorem dX6_passes_0 : decode cX6_passes 0 = .ok (.aload_n 0, 1) := by decide +kernel
theorem dX6_passes_1 : decode cX6_passes 1 = .ok (.iload_n 1, 1) := by decide +kernel
theorem dX6_passes_2 : decode cX6_passes 2 = .ok (.invokevirtual 129, 3) := by decide +kernel
theorem dX6_passes_5 : decode cX6_passes 5 = .ok (.ifCond .eq 13, 3) := by decide +kernel
theorem dX6_passes_8 : decode cX6_passes 8 = .ok (.aload_n 0, 1) := by decide +kernel
theorem dX6_passes_9 : decode cX6_passes 9 = .ok (.iload_n 1, 1) := by decide +kernel
theorem dX6_passes_10 : decode cX6_passes 10 = .ok (.bipush 7, 2) := by decide +kernel
theorem dX6_passes_12 : decode cX6_passes 12 = .ok (.invokevirtual 86, 3) := by decide +kernel
theorem dX6_passes_15 : decode cX6_passes 15 = .ok (.goto 5, 3) := by decide +kernel
theorem dX6_passes_18 : decode cX6_passes 18 = .ok (.bipush (-2), 2) := by decide +kernel
theorem dX6_passes_20 : decode cX6_passes 20 = .ok (.ireturn, 1) := by decide +kernel
theorem dX6_produced_0 : decode cX6_produced 0 = .ok (.iload_n 1, 1) := by decide +kernel
theorem dX6_produced_1 : decode cX6_produced 1 = .ok (.iconst (-1), 1) := by decide +kernel
theorem dX6_produced_2 : decode cX6_produced 2 = .ok (.if_icmp .ne 35, 3) := by decide +kernel
theorem dX6_produced_5 : decode cX6_produced 5 = .ok (.aload_n 0, 1) := by decide +kernel
theorem dX6_produced_6 : decode cX6_produced 6 = .ok (.getfield 7, 3) := by decide +kernel
theorem dX6_produced_9 : decode cX6_produced 9 = .ok (.bipush 37, 2) := by decide +kernel
theorem dX6_produced_11 : decode cX6_produced 11 = .ok (.iaload, 1) := by decide +kernel
theorem dX6_produced_12 : decode cX6_produced 12 = .ok (.aload_n 0, 1) := by decide +kernel
theorem dX6_produced_13 : decode cX6_produced 13 = .ok (.getfield 7, 3) := by decide +kernel
theorem dX6_produced_16 : decode cX6_produced 16 = .ok (.bipush 38, 2) := by decide +kernel
theorem dX6_produced_18 : decode cX6_produced 18 = .ok (.iaload, 1) := by decide +kernel
theorem dX6_produced_19 : decode cX6_produced 19 = .ok (.iadd, 1) := by decide +kernel
theorem dX6_produced_20 : decode cX6_produced 20 = .ok (.aload_n 0, 1) := by decide +kernel
theorem dX6_produced_21 : decode cX6_produced 21 = .ok (.getfield 7, 3) := by decide +kernel
theorem dX6_produced_24 : decode cX6_produced 24 = .ok (.bipush 39, 2) := by decide +kernel
theorem dX6_produced_26 : decode cX6_produced 26 = .ok (.iaload, 1) := by decide +kernel
theorem dX6_produced_27 : decode cX6_produced 27 = .ok (.iadd, 1) := by decide +kernel
theorem dX6_produced_28 : decode cX6_produced 28 = .ok (.aload_n 0, 1) := by decide +kernel
theorem dX6_produced_29 : decode cX6_produced 29 = .ok (.getfield 7, 3) := by decide +kernel
theorem dX6_produced_32 : decode cX6_produced 32 = .ok (.bipush 40, 2) := by decide +kernel
theorem dX6_produced_34 : decode cX6_produced 34 = .ok (.iaload, 1) := by decide +kernel
theorem dX6_produced_35 : decode cX6_produced 35 = .ok (.iadd, 1) := by decide +kernel
theorem dX6_produced_36 : decode cX6_produced 36 = .ok (.ireturn, 1) := by decide +kernel
theorem dX6_produced_37 : decode cX6_produced 37 = .ok (.iload_n 1, 1) := by decide +kernel
theorem dX6_produced_38 : decode cX6_produced 38 = .ok (.invokestatic 34, 3) := by decide +kernel
theorem dX6_produced_41 : decode cX6_produced 41 = .ok (.ifCond .eq 15, 3) := by decide +kernel
theorem dX6_produced_44 : decode cX6_produced 44 = .ok (.aload_n 0, 1) := by decide +kernel
theorem dX6_produced_45 : decode cX6_produced 45 = .ok (.getfield 7, 3) := by decide +kernel
theorem dX6_produced_48 : decode cX6_produced 48 = .ok (.bipush 37, 2) := by decide +kernel
theorem dX6_produced_50 : decode cX6_produced 50 = .ok (.iload_n 1, 1) := by decide +kernel
theorem dX6_produced_51 : decode cX6_produced 51 = .ok (.iadd, 1) := by decide +kernel
theorem dX6_produced_52 : decode cX6_produced 52 = .ok (.iaload, 1) := by decide +kernel
theorem dX6_produced_53 : decode cX6_produced 53 = .ok (.goto 4, 3) := by decide +kernel
theorem dX6_produced_56 : decode cX6_produced 56 = .ok (.iconst (-1), 1) := by decide +kernel
theorem dX6_produced_57 : decode cX6_produced 57 = .ok (.ireturn, 1) := by decide +kernel
theorem dX6_total_0 : decode cX6_total 0 = .ok (.iload_n 1, 1) := by decide +kernel
theorem dX6_total_1 : decode cX6_total 1 = .ok (.iconst 0, 1) := by decide +kernel
theorem dX6_total_2 : decode cX6_total 2 = .ok (.iconst 3, 1) := by decide +kernel
theorem dX6_total_3 : decode cX6_total 3 = .ok (.invokestatic 30, 3) := by decide +kernel
theorem dX6_total_6 : decode cX6_total 6 = .ok (.ifCond .eq 15, 3) := by decide +kernel
theorem dX6_total_9 : decode cX6_total 9 = .ok (.aload_n 0, 1) := by decide +kernel
theorem dX6_total_10 : decode cX6_total 10 = .ok (.getfield 7, 3) := by decide +kernel
theorem dX6_total_13 : decode cX6_total 13 = .ok (.bipush 30, 2) := by decide +kernel
theorem dX6_total_15 : decode cX6_total 15 = .ok (.iload_n 1, 1) := by decide +kernel
theorem dX6_total_16 : decode cX6_total 16 = .ok (.iadd, 1) := by decide +kernel
theorem dX6_total_17 : decode cX6_total 17 = .ok (.iaload, 1) := by decide +kernel
theorem dX6_total_18 : decode cX6_total 18 = .ok (.goto 5, 3) := by decide +kernel
theorem dX6_total_21 : decode cX6_total 21 = .ok (.bipush (-3), 2) := by decide +kernel
theorem dX6_total_23 : decode cX6_total 23 = .ok (.ireturn, 1) := by decide +kernel
theorem dX6_save_0 : decode cX6_save 0 = .ok (.iload_n 1, 1) := by decide +kernel
theorem dX6_save_1 : decode cX6_save 1 = .ok (.iconst 0, 1) := by decide +kernel
theorem dX6_save_2 : decode cX6_save 2 = .ok (.iconst 1, 1) := by decide +kernel
theorem dX6_save_3 : decode cX6_save 3 = .ok (.invokestatic 30, 3) := by decide +kernel
theorem dX6_save_6 : decode cX6_save 6 = .ok (.ifCond .ne 6, 3) := by decide +kernel
theorem dX6_save_9 : decode cX6_save 9 = .ok (.bipush (-3), 2) := by decide +kernel
theorem dX6_save_11 : decode cX6_save 11 = .ok (.ireturn, 1) := by decide +kernel
theorem dX6_save_12 : decode cX6_save 12 = .ok (.iconst 0, 1) := by decide +kernel
theorem dX6_save_13 : decode cX6_save 13 = .ok (.istore_n 2, 1) := by decide +kernel
theorem dX6_save_14 : decode cX6_save 14 = .ok (.iload_n 2, 1) := by decide +kernel
theorem dX6_save_15 : decode cX6_save 15 = .ok (.sipush 361, 3) := by decide +kernel
theorem dX6_save_18 : decode cX6_save 18 = .ok (.if_icmp .ge 27, 3) := by decide +kernel
theorem dX6_save_21 : decode cX6_save 21 = .ok (.aload_n 0, 1) := by decide +kernel
theorem dX6_save_22 : decode cX6_save 22 = .ok (.getfield 13, 3) := by decide +kernel
theorem dX6_save_25 : decode cX6_save 25 = .ok (.sipush 361, 3) := by decide +kernel
theorem dX6_save_28 : decode cX6_save 28 = .ok (.iload_n 1, 1) := by decide +kernel
theorem dX6_save_29 : decode cX6_save 29 = .ok (.imul, 1) := by decide +kernel
theorem dX6_save_30 : decode cX6_save 30 = .ok (.iload_n 2, 1) := by decide +kernel
theorem dX6_save_31 : decode cX6_save 31 = .ok (.iadd, 1) := by decide +kernel
theorem dX6_save_32 : decode cX6_save 32 = .ok (.aload_n 0, 1) := by decide +kernel
theorem dX6_save_33 : decode cX6_save 33 = .ok (.getfield 7, 3) := by decide +kernel
theorem dX6_save_36 : decode cX6_save 36 = .ok (.iload_n 2, 1) := by decide +kernel
theorem dX6_save_37 : decode cX6_save 37 = .ok (.iaload, 1) := by decide +kernel
theorem dX6_save_38 : decode cX6_save 38 = .ok (.iastore, 1) := by decide +kernel
theorem dX6_save_39 : decode cX6_save 39 = .ok (.iinc 2 1, 3) := by decide +kernel
theorem dX6_save_42 : decode cX6_save 42 = .ok (.goto (-28), 3) := by decide +kernel
theorem dX6_save_45 : decode cX6_save 45 = .ok (.aload_n 0, 1) := by decide +kernel
theorem dX6_save_46 : decode cX6_save 46 = .ok (.getfield 16, 3) := by decide +kernel
theorem dX6_save_49 : decode cX6_save 49 = .ok (.iload_n 1, 1) := by decide +kernel
theorem dX6_save_50 : decode cX6_save 50 = .ok (.iconst 1, 1) := by decide +kernel
theorem dX6_save_51 : decode cX6_save 51 = .ok (.bastore, 1) := by decide +kernel
theorem dX6_save_52 : decode cX6_save 52 = .ok (.aload_n 0, 1) := by decide +kernel
theorem dX6_save_53 : decode cX6_save 53 = .ok (.getfield 7, 3) := by decide +kernel
theorem dX6_save_56 : decode cX6_save 56 = .ok (.bipush 30, 2) := by decide +kernel
theorem dX6_save_58 : decode cX6_save 58 = .ok (.iaload, 1) := by decide +kernel
theorem dX6_save_59 : decode cX6_save 59 = .ok (.ireturn, 1) := by decide +kernel
theorem dX6_restore_0 : decode cX6_restore 0 = .ok (.iload_n 1, 1) := by decide +kernel
theorem dX6_restore_1 : decode cX6_restore 1 = .ok (.iconst 0, 1) := by decide +kernel
theorem dX6_restore_2 : decode cX6_restore 2 = .ok (.iconst 1, 1) := by decide +kernel
theorem dX6_restore_3 : decode cX6_restore 3 = .ok (.invokestatic 30, 3) := by decide +kernel
theorem dX6_restore_6 : decode cX6_restore 6 = .ok (.ifCond .ne 6, 3) := by decide +kernel
theorem dX6_restore_9 : decode cX6_restore 9 = .ok (.bipush (-3), 2) := by decide +kernel
theorem dX6_restore_11 : decode cX6_restore 11 = .ok (.ireturn, 1) := by decide +kernel
theorem dX6_restore_12 : decode cX6_restore 12 = .ok (.aload_n 0, 1) := by decide +kernel
theorem dX6_restore_13 : decode cX6_restore 13 = .ok (.getfield 16, 3) := by decide +kernel
theorem dX6_restore_16 : decode cX6_restore 16 = .ok (.iload_n 1, 1) := by decide +kernel
theorem dX6_restore_17 : decode cX6_restore 17 = .ok (.baload, 1) := by decide +kernel
theorem dX6_restore_18 : decode cX6_restore 18 = .ok (.ifCond .ne 6, 3) := by decide +kernel
theorem dX6_restore_21 : decode cX6_restore 21 = .ok (.bipush (-6), 2) := by decide +kernel
theorem dX6_restore_23 : decode cX6_restore 23 = .ok (.ireturn, 1) := by decide +kernel
theorem dX6_restore_24 : decode cX6_restore 24 = .ok (.iconst 0, 1) := by decide +kernel
theorem dX6_restore_25 : decode cX6_restore 25 = .ok (.istore_n 2, 1) := by decide +kernel
theorem dX6_restore_26 : decode cX6_restore 26 = .ok (.iload_n 2, 1) := by decide +kernel
theorem dX6_restore_27 : decode cX6_restore 27 = .ok (.sipush 361, 3) := by decide +kernel
theorem dX6_restore_30 : decode cX6_restore 30 = .ok (.if_icmp .ge 27, 3) := by decide +kernel
theorem dX6_restore_33 : decode cX6_restore 33 = .ok (.aload_n 0, 1) := by decide +kernel
theorem dX6_restore_34 : decode cX6_restore 34 = .ok (.getfield 7, 3) := by decide +kernel
theorem dX6_restore_37 : decode cX6_restore 37 = .ok (.iload_n 2, 1) := by decide +kernel
theorem dX6_restore_38 : decode cX6_restore 38 = .ok (.aload_n 0, 1) := by decide +kernel
theorem dX6_restore_39 : decode cX6_restore 39 = .ok (.getfield 13, 3) := by decide +kernel
theorem dX6_restore_42 : decode cX6_restore 42 = .ok (.sipush 361, 3) := by decide +kernel
theorem dX6_restore_45 : decode cX6_restore 45 = .ok (.iload_n 1, 1) := by decide +kernel
theorem dX6_restore_46 : decode cX6_restore 46 = .ok (.imul, 1) := by decide +kernel
theorem dX6_restore_47 : decode cX6_restore 47 = .ok (.iload_n 2, 1) := by decide +kernel
theorem dX6_restore_48 : decode cX6_restore 48 = .ok (.iadd, 1) := by decide +kernel
theorem dX6_restore_49 : decode cX6_restore 49 = .ok (.iaload, 1) := by decide +kernel
theorem dX6_restore_50 : decode cX6_restore 50 = .ok (.iastore, 1) := by decide +kernel
theorem dX6_restore_51 : decode cX6_restore 51 = .ok (.iinc 2 1, 3) := by decide +kernel
theorem dX6_restore_54 : decode cX6_restore 54 = .ok (.goto (-28), 3) := by decide +kernel
theorem dX6_restore_57 : decode cX6_restore 57 = .ok (.aload_n 0, 1) := by decide +kernel
theorem dX6_restore_58 : decode cX6_restore 58 = .ok (.getfield 7, 3) := by decide +kernel
theorem dX6_restore_61 : decode cX6_restore 61 = .ok (.bipush 30, 2) := by decide +kernel
theorem dX6_restore_63 : decode cX6_restore 63 = .ok (.iaload, 1) := by decide +kernel
theorem dX6_restore_64 : decode cX6_restore 64 = .ok (.ireturn, 1) := by decide +kernel
theorem dL_law_0 : decode cL_law 0 = .ok (.new 7, 3) := by decide +kernel
theorem dL_law_3 : decode cL_law 3 = .ok (.dup, 1) := by decide +kernel
theorem dL_law_4 : decode cL_law 4 = .ok (.invokespecial 9, 3) := by decide +kernel
theorem dL_law_7 : decode cL_law 7 = .ok (.astore_n 1, 1) := by decide +kernel
theorem dL_law_8 : decode cL_law 8 = .ok (.new 10, 3) := by decide +kernel
theorem dL_law_11 : decode cL_law 11 = .ok (.dup, 1) := by decide +kernel
theorem dL_law_12 : decode cL_law 12 = .ok (.invokespecial 12, 3) := by decide +kernel
theorem dL_law_15 : decode cL_law 15 = .ok (.astore_n 2, 1) := by decide +kernel
theorem dL_law_16 : decode cL_law 16 = .ok (.iconst 0, 1) := by decide +kernel
theorem dL_law_17 : decode cL_law 17 = .ok (.istore_n 3, 1) := by decide +kernel
theorem dL_law_18 : decode cL_law 18 = .ok (.iload_n 3, 1) := by decide +kernel
theorem dL_law_19 : decode cL_law 19 = .ok (.aload_n 0, 1) := by decide +kernel
theorem dL_law_20 : decode cL_law 20 = .ok (.arraylength, 1) := by decide +kernel
theorem dL_law_21 : decode cL_law 21 = .ok (.bipush 6, 2) := by decide +kernel
theorem dL_law_23 : decode cL_law 23 = .ok (.isub, 1) := by decide +kernel
theorem dL_law_24 : decode cL_law 24 = .ok (.if_icmp .gt 890, 3) := by decide +kernel
theorem dL_law_27 : decode cL_law 27 = .ok (.aload_n 0, 1) := by decide +kernel
theorem dL_law_28 : decode cL_law 28 = .ok (.iload_n 3, 1) := by decide +kernel
theorem dL_law_29 : decode cL_law 29 = .ok (.iaload, 1) := by decide +kernel
theorem dL_law_30 : decode cL_law 30 = .ok (.bipush 31, 2) := by decide +kernel
theorem dL_law_32 : decode cL_law 32 = .ok (.iand, 1) := by decide +kernel
theorem dL_law_33 : decode cL_law 33 = .ok (.tableswitch 875 0 24 #[115, 168, 201, 234, 267, 300, 334, 368, 392, 416, 450, 473, 526, 589, 612, 635, 658, 681, 704, 727, 760, 783, 806, 829, 852], 115) := by decide +kernel
theorem dL_law_148 : decode cL_law 148 = .ok (.aload_n 1, 1) := by decide +kernel
theorem dL_law_149 : decode cL_law 149 = .ok (.aload_n 0, 1) := by decide +kernel
theorem dL_law_150 : decode cL_law 150 = .ok (.iload_n 3, 1) := by decide +kernel
theorem dL_law_151 : decode cL_law 151 = .ok (.iconst 1, 1) := by decide +kernel
theorem dL_law_152 : decode cL_law 152 = .ok (.iadd, 1) := by decide +kernel
theorem dL_law_153 : decode cL_law 153 = .ok (.iaload, 1) := by decide +kernel
theorem dL_law_154 : decode cL_law 154 = .ok (.aload_n 0, 1) := by decide +kernel
theorem dL_law_155 : decode cL_law 155 = .ok (.iload_n 3, 1) := by decide +kernel
theorem dL_law_156 : decode cL_law 156 = .ok (.iconst 2, 1) := by decide +kernel
theorem dL_law_157 : decode cL_law 157 = .ok (.iadd, 1) := by decide +kernel
theorem dL_law_158 : decode cL_law 158 = .ok (.iaload, 1) := by decide +kernel
theorem dL_law_159 : decode cL_law 159 = .ok (.aload_n 0, 1) := by decide +kernel
theorem dL_law_160 : decode cL_law 160 = .ok (.iload_n 3, 1) := by decide +kernel
theorem dL_law_161 : decode cL_law 161 = .ok (.iconst 3, 1) := by decide +kernel
theorem dL_law_162 : decode cL_law 162 = .ok (.iadd, 1) := by decide +kernel
theorem dL_law_163 : decode cL_law 163 = .ok (.iaload, 1) := by decide +kernel
theorem dL_law_164 : decode cL_law 164 = .ok (.aload_n 0, 1) := by decide +kernel
theorem dL_law_165 : decode cL_law 165 = .ok (.iload_n 3, 1) := by decide +kernel
theorem dL_law_166 : decode cL_law 166 = .ok (.iconst 4, 1) := by decide +kernel
theorem dL_law_167 : decode cL_law 167 = .ok (.iadd, 1) := by decide +kernel
theorem dL_law_168 : decode cL_law 168 = .ok (.iaload, 1) := by decide +kernel
theorem dL_law_169 : decode cL_law 169 = .ok (.invokevirtual 13, 3) := by decide +kernel
theorem dL_law_172 : decode cL_law 172 = .ok (.aload_n 2, 1) := by decide +kernel
theorem dL_law_173 : decode cL_law 173 = .ok (.aload_n 0, 1) := by decide +kernel
theorem dL_law_174 : decode cL_law 174 = .ok (.iload_n 3, 1) := by decide +kernel
theorem dL_law_175 : decode cL_law 175 = .ok (.iconst 1, 1) := by decide +kernel
theorem dL_law_176 : decode cL_law 176 = .ok (.iadd, 1) := by decide +kernel
theorem dL_law_177 : decode cL_law 177 = .ok (.iaload, 1) := by decide +kernel
theorem dL_law_178 : decode cL_law 178 = .ok (.aload_n 0, 1) := by decide +kernel
theorem dL_law_179 : decode cL_law 179 = .ok (.iload_n 3, 1) := by decide +kernel
theorem dL_law_180 : decode cL_law 180 = .ok (.iconst 2, 1) := by decide +kernel
theorem dL_law_181 : decode cL_law 181 = .ok (.iadd, 1) := by decide +kernel
theorem dL_law_182 : decode cL_law 182 = .ok (.iaload, 1) := by decide +kernel
theorem dL_law_183 : decode cL_law 183 = .ok (.aload_n 0, 1) := by decide +kernel
theorem dL_law_184 : decode cL_law 184 = .ok (.iload_n 3, 1) := by decide +kernel
theorem dL_law_185 : decode cL_law 185 = .ok (.iconst 3, 1) := by decide +kernel
theorem dL_law_186 : decode cL_law 186 = .ok (.iadd, 1) := by decide +kernel
theorem dL_law_187 : decode cL_law 187 = .ok (.iaload, 1) := by decide +kernel
theorem dL_law_188 : decode cL_law 188 = .ok (.aload_n 0, 1) := by decide +kernel
theorem dL_law_189 : decode cL_law 189 = .ok (.iload_n 3, 1) := by decide +kernel
theorem dL_law_190 : decode cL_law 190 = .ok (.iconst 4, 1) := by decide +kernel
theorem dL_law_191 : decode cL_law 191 = .ok (.iadd, 1) := by decide +kernel
theorem dL_law_192 : decode cL_law 192 = .ok (.iaload, 1) := by decide +kernel
theorem dL_law_193 : decode cL_law 193 = .ok (.invokevirtual 17, 3) := by decide +kernel
theorem dL_law_196 : decode cL_law 196 = .ok (.if_icmp .eq 712, 3) := by decide +kernel
theorem dL_law_199 : decode cL_law 199 = .ok (.iconst 0, 1) := by decide +kernel
theorem dL_law_200 : decode cL_law 200 = .ok (.ireturn, 1) := by decide +kernel
theorem dL_law_201 : decode cL_law 201 = .ok (.aload_n 1, 1) := by decide +kernel
theorem dL_law_202 : decode cL_law 202 = .ok (.aload_n 0, 1) := by decide +kernel
theorem dL_law_203 : decode cL_law 203 = .ok (.iload_n 3, 1) := by decide +kernel
theorem dL_law_204 : decode cL_law 204 = .ok (.iconst 1, 1) := by decide +kernel
theorem dL_law_205 : decode cL_law 205 = .ok (.iadd, 1) := by decide +kernel
theorem dL_law_206 : decode cL_law 206 = .ok (.iaload, 1) := by decide +kernel
theorem dL_law_207 : decode cL_law 207 = .ok (.aload_n 0, 1) := by decide +kernel
theorem dL_law_208 : decode cL_law 208 = .ok (.iload_n 3, 1) := by decide +kernel
theorem dL_law_209 : decode cL_law 209 = .ok (.iconst 2, 1) := by decide +kernel
theorem dL_law_210 : decode cL_law 210 = .ok (.iadd, 1) := by decide +kernel
theorem dL_law_211 : decode cL_law 211 = .ok (.iaload, 1) := by decide +kernel
theorem dL_law_212 : decode cL_law 212 = .ok (.invokevirtual 18, 3) := by decide +kernel
theorem dL_law_215 : decode cL_law 215 = .ok (.aload_n 2, 1) := by decide +kernel
theorem dL_law_216 : decode cL_law 216 = .ok (.aload_n 0, 1) := by decide +kernel
theorem dL_law_217 : decode cL_law 217 = .ok (.iload_n 3, 1) := by decide +kernel
theorem dL_law_218 : decode cL_law 218 = .ok (.iconst 1, 1) := by decide +kernel
theorem dL_law_219 : decode cL_law 219 = .ok (.iadd, 1) := by decide +kernel
theorem dL_law_220 : decode cL_law 220 = .ok (.iaload, 1) := by decide +kernel
theorem dL_law_221 : decode cL_law 221 = .ok (.aload_n 0, 1) := by decide +kernel
theorem dL_law_222 : decode cL_law 222 = .ok (.iload_n 3, 1) := by decide +kernel
theorem dL_law_223 : decode cL_law 223 = .ok (.iconst 2, 1) := by decide +kernel
theorem dL_law_224 : decode cL_law 224 = .ok (.iadd, 1) := by decide +kernel
theorem dL_law_225 : decode cL_law 225 = .ok (.iaload, 1) := by decide +kernel
theorem dL_law_226 : decode cL_law 226 = .ok (.invokevirtual 22, 3) := by decide +kernel
theorem dL_law_229 : decode cL_law 229 = .ok (.if_icmp .eq 679, 3) := by decide +kernel
theorem dL_law_232 : decode cL_law 232 = .ok (.iconst 0, 1) := by decide +kernel
theorem dL_law_233 : decode cL_law 233 = .ok (.ireturn, 1) := by decide +kernel
theorem dL_law_234 : decode cL_law 234 = .ok (.aload_n 1, 1) := by decide +kernel
theorem dL_law_235 : decode cL_law 235 = .ok (.aload_n 0, 1) := by decide +kernel
theorem dL_law_236 : decode cL_law 236 = .ok (.iload_n 3, 1) := by decide +kernel
theorem dL_law_237 : decode cL_law 237 = .ok (.iconst 1, 1) := by decide +kernel
theorem dL_law_238 : decode cL_law 238 = .ok (.iadd, 1) := by decide +kernel
theorem dL_law_239 : decode cL_law 239 = .ok (.iaload, 1) := by decide +kernel
theorem dL_law_240 : decode cL_law 240 = .ok (.aload_n 0, 1) := by decide +kernel
theorem dL_law_241 : decode cL_law 241 = .ok (.iload_n 3, 1) := by decide +kernel
theorem dL_law_242 : decode cL_law 242 = .ok (.iconst 2, 1) := by decide +kernel
theorem dL_law_243 : decode cL_law 243 = .ok (.iadd, 1) := by decide +kernel
theorem dL_law_244 : decode cL_law 244 = .ok (.iaload, 1) := by decide +kernel
theorem dL_law_245 : decode cL_law 245 = .ok (.invokevirtual 23, 3) := by decide +kernel
theorem dL_law_248 : decode cL_law 248 = .ok (.aload_n 2, 1) := by decide +kernel
theorem dL_law_249 : decode cL_law 249 = .ok (.aload_n 0, 1) := by decide +kernel
theorem dL_law_250 : decode cL_law 250 = .ok (.iload_n 3, 1) := by decide +kernel
theorem dL_law_251 : decode cL_law 251 = .ok (.iconst 1, 1) := by decide +kernel
theorem dL_law_252 : decode cL_law 252 = .ok (.iadd, 1) := by decide +kernel
theorem dL_law_253 : decode cL_law 253 = .ok (.iaload, 1) := by decide +kernel
theorem dL_law_254 : decode cL_law 254 = .ok (.aload_n 0, 1) := by decide +kernel
theorem dL_law_255 : decode cL_law 255 = .ok (.iload_n 3, 1) := by decide +kernel
theorem dL_law_256 : decode cL_law 256 = .ok (.iconst 2, 1) := by decide +kernel
theorem dL_law_257 : decode cL_law 257 = .ok (.iadd, 1) := by decide +kernel
theorem dL_law_258 : decode cL_law 258 = .ok (.iaload, 1) := by decide +kernel
theorem dL_law_259 : decode cL_law 259 = .ok (.invokevirtual 26, 3) := by decide +kernel
theorem dL_law_262 : decode cL_law 262 = .ok (.if_icmp .eq 646, 3) := by decide +kernel
theorem dL_law_265 : decode cL_law 265 = .ok (.iconst 0, 1) := by decide +kernel
theorem dL_law_266 : decode cL_law 266 = .ok (.ireturn, 1) := by decide +kernel
theorem dL_law_267 : decode cL_law 267 = .ok (.aload_n 1, 1) := by decide +kernel
theorem dL_law_268 : decode cL_law 268 = .ok (.aload_n 0, 1) := by decide +kernel
theorem dL_law_269 : decode cL_law 269 = .ok (.iload_n 3, 1) := by decide +kernel
theorem dL_law_270 : decode cL_law 270 = .ok (.iconst 1, 1) := by decide +kernel
theorem dL_law_271 : decode cL_law 271 = .ok (.iadd, 1) := by decide +kernel
theorem dL_law_272 : decode cL_law 272 = .ok (.iaload, 1) := by decide +kernel
theorem dL_law_273 : decode cL_law 273 = .ok (.aload_n 0, 1) := by decide +kernel
theorem dL_law_274 : decode cL_law 274 = .ok (.iload_n 3, 1) := by decide +kernel
theorem dL_law_275 : decode cL_law 275 = .ok (.iconst 2, 1) := by decide +kernel
theorem dL_law_276 : decode cL_law 276 = .ok (.iadd, 1) := by decide +kernel
theorem dL_law_277 : decode cL_law 277 = .ok (.iaload, 1) := by decide +kernel
theorem dL_law_278 : decode cL_law 278 = .ok (.invokevirtual 27, 3) := by decide +kernel
theorem dL_law_281 : decode cL_law 281 = .ok (.aload_n 2, 1) := by decide +kernel
theorem dL_law_282 : decode cL_law 282 = .ok (.aload_n 0, 1) := by decide +kernel
theorem dL_law_283 : decode cL_law 283 = .ok (.iload_n 3, 1) := by decide +kernel
theorem dL_law_284 : decode cL_law 284 = .ok (.iconst 1, 1) := by decide +kernel
theorem dL_law_285 : decode cL_law 285 = .ok (.iadd, 1) := by decide +kernel
theorem dL_law_286 : decode cL_law 286 = .ok (.iaload, 1) := by decide +kernel
theorem dL_law_287 : decode cL_law 287 = .ok (.aload_n 0, 1) := by decide +kernel
theorem dL_law_288 : decode cL_law 288 = .ok (.iload_n 3, 1) := by decide +kernel
theorem dL_law_289 : decode cL_law 289 = .ok (.iconst 2, 1) := by decide +kernel
theorem dL_law_290 : decode cL_law 290 = .ok (.iadd, 1) := by decide +kernel
theorem dL_law_291 : decode cL_law 291 = .ok (.iaload, 1) := by decide +kernel
theorem dL_law_292 : decode cL_law 292 = .ok (.invokevirtual 30, 3) := by decide +kernel
theorem dL_law_295 : decode cL_law 295 = .ok (.if_icmp .eq 613, 3) := by decide +kernel
theorem dL_law_298 : decode cL_law 298 = .ok (.iconst 0, 1) := by decide +kernel
theorem dL_law_299 : decode cL_law 299 = .ok (.ireturn, 1) := by decide +kernel
theorem dL_law_300 : decode cL_law 300 = .ok (.aload_n 1, 1) := by decide +kernel
theorem dL_law_301 : decode cL_law 301 = .ok (.aload_n 0, 1) := by decide +kernel
theorem dL_law_302 : decode cL_law 302 = .ok (.iload_n 3, 1) := by decide +kernel
theorem dL_law_303 : decode cL_law 303 = .ok (.iconst 1, 1) := by decide +kernel
theorem dL_law_304 : decode cL_law 304 = .ok (.iadd, 1) := by decide +kernel
theorem dL_law_305 : decode cL_law 305 = .ok (.iaload, 1) := by decide +kernel
theorem dL_law_306 : decode cL_law 306 = .ok (.aload_n 0, 1) := by decide +kernel
theorem dL_law_307 : decode cL_law 307 = .ok (.iload_n 3, 1) := by decide +kernel
theorem dL_law_308 : decode cL_law 308 = .ok (.iconst 2, 1) := by decide +kernel
theorem dL_law_309 : decode cL_law 309 = .ok (.iadd, 1) := by decide +kernel
theorem dL_law_310 : decode cL_law 310 = .ok (.iaload, 1) := by decide +kernel
theorem dL_law_311 : decode cL_law 311 = .ok (.invokevirtual 31, 3) := by decide +kernel
theorem dL_law_314 : decode cL_law 314 = .ok (.aload_n 2, 1) := by decide +kernel
theorem dL_law_315 : decode cL_law 315 = .ok (.aload_n 0, 1) := by decide +kernel
theorem dL_law_316 : decode cL_law 316 = .ok (.iload_n 3, 1) := by decide +kernel
theorem dL_law_317 : decode cL_law 317 = .ok (.iconst 1, 1) := by decide +kernel
theorem dL_law_318 : decode cL_law 318 = .ok (.iadd, 1) := by decide +kernel
theorem dL_law_319 : decode cL_law 319 = .ok (.iaload, 1) := by decide +kernel
theorem dL_law_320 : decode cL_law 320 = .ok (.aload_n 0, 1) := by decide +kernel
theorem dL_law_321 : decode cL_law 321 = .ok (.iload_n 3, 1) := by decide +kernel
theorem dL_law_322 : decode cL_law 322 = .ok (.iconst 2, 1) := by decide +kernel
theorem dL_law_323 : decode cL_law 323 = .ok (.iadd, 1) := by decide +kernel
theorem dL_law_324 : decode cL_law 324 = .ok (.iaload, 1) := by decide +kernel
theorem dL_law_325 : decode cL_law 325 = .ok (.invokevirtual 34, 3) := by decide +kernel
theorem dL_law_328 : decode cL_law 328 = .ok (.if_icmp .eq 580, 3) := by decide +kernel
theorem dL_law_331 : decode cL_law 331 = .ok (.iconst 0, 1) := by decide +kernel
theorem dL_law_332 : decode cL_law 332 = .ok (.ireturn, 1) := by decide +kernel
theorem dL_law_333 : decode cL_law 333 = .ok (.aload_n 1, 1) := by decide +kernel
theorem dL_law_334 : decode cL_law 334 = .ok (.aload_n 0, 1) := by decide +kernel
theorem dL_law_335 : decode cL_law 335 = .ok (.iload_n 3, 1) := by decide +kernel
theorem dL_law_336 : decode cL_law 336 = .ok (.iconst 1, 1) := by decide +kernel
theorem dL_law_337 : decode cL_law 337 = .ok (.iadd, 1) := by decide +kernel
theorem dL_law_338 : decode cL_law 338 = .ok (.iaload, 1) := by decide +kernel
theorem dL_law_339 : decode cL_law 339 = .ok (.aload_n 0, 1) := by decide +kernel
theorem dL_law_340 : decode cL_law 340 = .ok (.iload_n 3, 1) := by decide +kernel
theorem dL_law_341 : decode cL_law 341 = .ok (.iconst 2, 1) := by decide +kernel
theorem dL_law_342 : decode cL_law 342 = .ok (.iadd, 1) := by decide +kernel
theorem dL_law_343 : decode cL_law 343 = .ok (.iaload, 1) := by decide +kernel
theorem dL_law_344 : decode cL_law 344 = .ok (.invokevirtual 35, 3) := by decide +kernel
theorem dL_law_347 : decode cL_law 347 = .ok (.aload_n 2, 1) := by decide +kernel
theorem dL_law_348 : decode cL_law 348 = .ok (.aload_n 0, 1) := by decide +kernel
theorem dL_law_349 : decode cL_law 349 = .ok (.iload_n 3, 1) := by decide +kernel
theorem dL_law_350 : decode cL_law 350 = .ok (.iconst 1, 1) := by decide +kernel
theorem dL_law_351 : decode cL_law 351 = .ok (.iadd, 1) := by decide +kernel
theorem dL_law_352 : decode cL_law 352 = .ok (.iaload, 1) := by decide +kernel
theorem dL_law_353 : decode cL_law 353 = .ok (.aload_n 0, 1) := by decide +kernel
theorem dL_law_354 : decode cL_law 354 = .ok (.iload_n 3, 1) := by decide +kernel
theorem dL_law_355 : decode cL_law 355 = .ok (.iconst 2, 1) := by decide +kernel
theorem dL_law_356 : decode cL_law 356 = .ok (.iadd, 1) := by decide +kernel
theorem dL_law_357 : decode cL_law 357 = .ok (.iaload, 1) := by decide +kernel
theorem dL_law_358 : decode cL_law 358 = .ok (.invokevirtual 39, 3) := by decide +kernel
theorem dL_law_361 : decode cL_law 361 = .ok (.lcmp, 1) := by decide +kernel
theorem dL_law_362 : decode cL_law 362 = .ok (.ifCond .eq 546, 3) := by decide +kernel
theorem dL_law_365 : decode cL_law 365 = .ok (.iconst 0, 1) := by decide +kernel
theorem dL_law_366 : decode cL_law 366 = .ok (.ireturn, 1) := by decide +kernel
theorem dL_law_367 : decode cL_law 367 = .ok (.aload_n 1, 1) := by decide +kernel
theorem dL_law_368 : decode cL_law 368 = .ok (.aload_n 0, 1) := by decide +kernel
theorem dL_law_369 : decode cL_law 369 = .ok (.iload_n 3, 1) := by decide +kernel
theorem dL_law_370 : decode cL_law 370 = .ok (.iconst 1, 1) := by decide +kernel
theorem dL_law_371 : decode cL_law 371 = .ok (.iadd, 1) := by decide +kernel
theorem dL_law_372 : decode cL_law 372 = .ok (.iaload, 1) := by decide +kernel
theorem dL_law_373 : decode cL_law 373 = .ok (.aload_n 0, 1) := by decide +kernel
theorem dL_law_374 : decode cL_law 374 = .ok (.iload_n 3, 1) := by decide +kernel
theorem dL_law_375 : decode cL_law 375 = .ok (.iconst 2, 1) := by decide +kernel
theorem dL_law_376 : decode cL_law 376 = .ok (.iadd, 1) := by decide +kernel
theorem dL_law_377 : decode cL_law 377 = .ok (.iaload, 1) := by decide +kernel
theorem dL_law_378 : decode cL_law 378 = .ok (.invokevirtual 40, 3) := by decide +kernel
theorem dL_law_381 : decode cL_law 381 = .ok (.aload_n 2, 1) := by decide +kernel
theorem dL_law_382 : decode cL_law 382 = .ok (.aload_n 0, 1) := by decide +kernel
theorem dL_law_383 : decode cL_law 383 = .ok (.iload_n 3, 1) := by decide +kernel
theorem dL_law_384 : decode cL_law 384 = .ok (.iconst 1, 1) := by decide +kernel
theorem dL_law_385 : decode cL_law 385 = .ok (.iadd, 1) := by decide +kernel
theorem dL_law_386 : decode cL_law 386 = .ok (.iaload, 1) := by decide +kernel
theorem dL_law_387 : decode cL_law 387 = .ok (.aload_n 0, 1) := by decide +kernel
theorem dL_law_388 : decode cL_law 388 = .ok (.iload_n 3, 1) := by decide +kernel
theorem dL_law_389 : decode cL_law 389 = .ok (.iconst 2, 1) := by decide +kernel
theorem dL_law_390 : decode cL_law 390 = .ok (.iadd, 1) := by decide +kernel
theorem dL_law_391 : decode cL_law 391 = .ok (.iaload, 1) := by decide +kernel
theorem dL_law_392 : decode cL_law 392 = .ok (.invokevirtual 43, 3) := by decide +kernel
theorem dL_law_395 : decode cL_law 395 = .ok (.lcmp, 1) := by decide +kernel
theorem dL_law_396 : decode cL_law 396 = .ok (.ifCond .eq 512, 3) := by decide +kernel
theorem dL_law_399 : decode cL_law 399 = .ok (.iconst 0, 1) := by decide +kernel
theorem dL_law_400 : decode cL_law 400 = .ok (.ireturn, 1) := by decide +kernel
theorem dL_law_401 : decode cL_law 401 = .ok (.aload_n 1, 1) := by decide +kernel
theorem dL_law_402 : decode cL_law 402 = .ok (.aload_n 0, 1) := by decide +kernel
theorem dL_law_403 : decode cL_law 403 = .ok (.iload_n 3, 1) := by decide +kernel
theorem dL_law_404 : decode cL_law 404 = .ok (.iconst 1, 1) := by decide +kernel
theorem dL_law_405 : decode cL_law 405 = .ok (.iadd, 1) := by decide +kernel
theorem dL_law_406 : decode cL_law 406 = .ok (.iaload, 1) := by decide +kernel
theorem dL_law_407 : decode cL_law 407 = .ok (.invokevirtual 44, 3) := by decide +kernel
theorem dL_law_410 : decode cL_law 410 = .ok (.aload_n 2, 1) := by decide +kernel
theorem dL_law_411 : decode cL_law 411 = .ok (.aload_n 0, 1) := by decide +kernel
theorem dL_law_412 : decode cL_law 412 = .ok (.iload_n 3, 1) := by decide +kernel
theorem dL_law_413 : decode cL_law 413 = .ok (.iconst 1, 1) := by decide +kernel
theorem dL_law_414 : decode cL_law 414 = .ok (.iadd, 1) := by decide +kernel
theorem dL_law_415 : decode cL_law 415 = .ok (.iaload, 1) := by decide +kernel
theorem dL_law_416 : decode cL_law 416 = .ok (.invokevirtual 48, 3) := by decide +kernel
theorem dL_law_419 : decode cL_law 419 = .ok (.lcmp, 1) := by decide +kernel
theorem dL_law_420 : decode cL_law 420 = .ok (.ifCond .eq 488, 3) := by decide +kernel
theorem dL_law_423 : decode cL_law 423 = .ok (.iconst 0, 1) := by decide +kernel
theorem dL_law_424 : decode cL_law 424 = .ok (.ireturn, 1) := by decide +kernel
theorem dL_law_425 : decode cL_law 425 = .ok (.aload_n 1, 1) := by decide +kernel
theorem dL_law_426 : decode cL_law 426 = .ok (.aload_n 0, 1) := by decide +kernel
theorem dL_law_427 : decode cL_law 427 = .ok (.iload_n 3, 1) := by decide +kernel
theorem dL_law_428 : decode cL_law 428 = .ok (.iconst 1, 1) := by decide +kernel
theorem dL_law_429 : decode cL_law 429 = .ok (.iadd, 1) := by decide +kernel
theorem dL_law_430 : decode cL_law 430 = .ok (.iaload, 1) := by decide +kernel
theorem dL_law_431 : decode cL_law 431 = .ok (.invokevirtual 49, 3) := by decide +kernel
theorem dL_law_434 : decode cL_law 434 = .ok (.aload_n 2, 1) := by decide +kernel
theorem dL_law_435 : decode cL_law 435 = .ok (.aload_n 0, 1) := by decide +kernel
theorem dL_law_436 : decode cL_law 436 = .ok (.iload_n 3, 1) := by decide +kernel
theorem dL_law_437 : decode cL_law 437 = .ok (.iconst 1, 1) := by decide +kernel
theorem dL_law_438 : decode cL_law 438 = .ok (.iadd, 1) := by decide +kernel
theorem dL_law_439 : decode cL_law 439 = .ok (.iaload, 1) := by decide +kernel
theorem dL_law_440 : decode cL_law 440 = .ok (.invokevirtual 52, 3) := by decide +kernel
theorem dL_law_443 : decode cL_law 443 = .ok (.lcmp, 1) := by decide +kernel
theorem dL_law_444 : decode cL_law 444 = .ok (.ifCond .eq 464, 3) := by decide +kernel
theorem dL_law_447 : decode cL_law 447 = .ok (.iconst 0, 1) := by decide +kernel
theorem dL_law_448 : decode cL_law 448 = .ok (.ireturn, 1) := by decide +kernel
theorem dL_law_449 : decode cL_law 449 = .ok (.aload_n 1, 1) := by decide +kernel
theorem dL_law_450 : decode cL_law 450 = .ok (.aload_n 0, 1) := by decide +kernel
theorem dL_law_451 : decode cL_law 451 = .ok (.iload_n 3, 1) := by decide +kernel
theorem dL_law_452 : decode cL_law 452 = .ok (.iconst 1, 1) := by decide +kernel
theorem dL_law_453 : decode cL_law 453 = .ok (.iadd, 1) := by decide +kernel
theorem dL_law_454 : decode cL_law 454 = .ok (.iaload, 1) := by decide +kernel
theorem dL_law_455 : decode cL_law 455 = .ok (.aload_n 0, 1) := by decide +kernel
theorem dL_law_456 : decode cL_law 456 = .ok (.iload_n 3, 1) := by decide +kernel
theorem dL_law_457 : decode cL_law 457 = .ok (.iconst 2, 1) := by decide +kernel
theorem dL_law_458 : decode cL_law 458 = .ok (.iadd, 1) := by decide +kernel
theorem dL_law_459 : decode cL_law 459 = .ok (.iaload, 1) := by decide +kernel
theorem dL_law_460 : decode cL_law 460 = .ok (.invokevirtual 53, 3) := by decide +kernel
theorem dL_law_463 : decode cL_law 463 = .ok (.aload_n 2, 1) := by decide +kernel
theorem dL_law_464 : decode cL_law 464 = .ok (.aload_n 0, 1) := by decide +kernel
theorem dL_law_465 : decode cL_law 465 = .ok (.iload_n 3, 1) := by decide +kernel
theorem dL_law_466 : decode cL_law 466 = .ok (.iconst 1, 1) := by decide +kernel
theorem dL_law_467 : decode cL_law 467 = .ok (.iadd, 1) := by decide +kernel
theorem dL_law_468 : decode cL_law 468 = .ok (.iaload, 1) := by decide +kernel
theorem dL_law_469 : decode cL_law 469 = .ok (.aload_n 0, 1) := by decide +kernel
theorem dL_law_470 : decode cL_law 470 = .ok (.iload_n 3, 1) := by decide +kernel
theorem dL_law_471 : decode cL_law 471 = .ok (.iconst 2, 1) := by decide +kernel
theorem dL_law_472 : decode cL_law 472 = .ok (.iadd, 1) := by decide +kernel
theorem dL_law_473 : decode cL_law 473 = .ok (.iaload, 1) := by decide +kernel
theorem dL_law_474 : decode cL_law 474 = .ok (.invokevirtual 56, 3) := by decide +kernel
theorem dL_law_477 : decode cL_law 477 = .ok (.lcmp, 1) := by decide +kernel
theorem dL_law_478 : decode cL_law 478 = .ok (.ifCond .eq 430, 3) := by decide +kernel
theorem dL_law_481 : decode cL_law 481 = .ok (.iconst 0, 1) := by decide +kernel
theorem dL_law_482 : decode cL_law 482 = .ok (.ireturn, 1) := by decide +kernel
theorem dL_law_483 : decode cL_law 483 = .ok (.aload_n 1, 1) := by decide +kernel
theorem dL_law_484 : decode cL_law 484 = .ok (.aload_n 0, 1) := by decide +kernel
theorem dL_law_485 : decode cL_law 485 = .ok (.iload_n 3, 1) := by decide +kernel
theorem dL_law_486 : decode cL_law 486 = .ok (.iconst 1, 1) := by decide +kernel
theorem dL_law_487 : decode cL_law 487 = .ok (.iadd, 1) := by decide +kernel
theorem dL_law_488 : decode cL_law 488 = .ok (.iaload, 1) := by decide +kernel
theorem dL_law_489 : decode cL_law 489 = .ok (.invokevirtual 57, 3) := by decide +kernel
theorem dL_law_492 : decode cL_law 492 = .ok (.aload_n 2, 1) := by decide +kernel
theorem dL_law_493 : decode cL_law 493 = .ok (.aload_n 0, 1) := by decide +kernel
theorem dL_law_494 : decode cL_law 494 = .ok (.iload_n 3, 1) := by decide +kernel
theorem dL_law_495 : decode cL_law 495 = .ok (.iconst 1, 1) := by decide +kernel
theorem dL_law_496 : decode cL_law 496 = .ok (.iadd, 1) := by decide +kernel
theorem dL_law_497 : decode cL_law 497 = .ok (.iaload, 1) := by decide +kernel
theorem dL_law_498 : decode cL_law 498 = .ok (.invokevirtual 61, 3) := by decide +kernel
theorem dL_law_501 : decode cL_law 501 = .ok (.if_icmp .eq 407, 3) := by decide +kernel
theorem dL_law_504 : decode cL_law 504 = .ok (.iconst 0, 1) := by decide +kernel
theorem dL_law_505 : decode cL_law 505 = .ok (.ireturn, 1) := by decide +kernel
theorem dL_law_506 : decode cL_law 506 = .ok (.aload_n 1, 1) := by decide +kernel
theorem dL_law_507 : decode cL_law 507 = .ok (.aload_n 0, 1) := by decide +kernel
theorem dL_law_508 : decode cL_law 508 = .ok (.iload_n 3, 1) := by decide +kernel
theorem dL_law_509 : decode cL_law 509 = .ok (.iconst 1, 1) := by decide +kernel
theorem dL_law_510 : decode cL_law 510 = .ok (.iadd, 1) := by decide +kernel
theorem dL_law_511 : decode cL_law 511 = .ok (.iaload, 1) := by decide +kernel
theorem dL_law_512 : decode cL_law 512 = .ok (.aload_n 0, 1) := by decide +kernel
theorem dL_law_513 : decode cL_law 513 = .ok (.iload_n 3, 1) := by decide +kernel
theorem dL_law_514 : decode cL_law 514 = .ok (.iconst 2, 1) := by decide +kernel
theorem dL_law_515 : decode cL_law 515 = .ok (.iadd, 1) := by decide +kernel
theorem dL_law_516 : decode cL_law 516 = .ok (.iaload, 1) := by decide +kernel
theorem dL_law_517 : decode cL_law 517 = .ok (.aload_n 0, 1) := by decide +kernel
theorem dL_law_518 : decode cL_law 518 = .ok (.iload_n 3, 1) := by decide +kernel
theorem dL_law_519 : decode cL_law 519 = .ok (.iconst 3, 1) := by decide +kernel
theorem dL_law_520 : decode cL_law 520 = .ok (.iadd, 1) := by decide +kernel
theorem dL_law_521 : decode cL_law 521 = .ok (.iaload, 1) := by decide +kernel
theorem dL_law_522 : decode cL_law 522 = .ok (.aload_n 0, 1) := by decide +kernel
theorem dL_law_523 : decode cL_law 523 = .ok (.iload_n 3, 1) := by decide +kernel
theorem dL_law_524 : decode cL_law 524 = .ok (.iconst 4, 1) := by decide +kernel
theorem dL_law_525 : decode cL_law 525 = .ok (.iadd, 1) := by decide +kernel
theorem dL_law_526 : decode cL_law 526 = .ok (.iaload, 1) := by decide +kernel
theorem dL_law_527 : decode cL_law 527 = .ok (.invokevirtual 62, 3) := by decide +kernel
theorem dL_law_530 : decode cL_law 530 = .ok (.aload_n 2, 1) := by decide +kernel
theorem dL_law_531 : decode cL_law 531 = .ok (.aload_n 0, 1) := by decide +kernel
theorem dL_law_532 : decode cL_law 532 = .ok (.iload_n 3, 1) := by decide +kernel
theorem dL_law_533 : decode cL_law 533 = .ok (.iconst 1, 1) := by decide +kernel
theorem dL_law_534 : decode cL_law 534 = .ok (.iadd, 1) := by decide +kernel
theorem dL_law_535 : decode cL_law 535 = .ok (.iaload, 1) := by decide +kernel
theorem dL_law_536 : decode cL_law 536 = .ok (.aload_n 0, 1) := by decide +kernel
theorem dL_law_537 : decode cL_law 537 = .ok (.iload_n 3, 1) := by decide +kernel
theorem dL_law_538 : decode cL_law 538 = .ok (.iconst 2, 1) := by decide +kernel
theorem dL_law_539 : decode cL_law 539 = .ok (.iadd, 1) := by decide +kernel
theorem dL_law_540 : decode cL_law 540 = .ok (.iaload, 1) := by decide +kernel
theorem dL_law_541 : decode cL_law 541 = .ok (.aload_n 0, 1) := by decide +kernel
theorem dL_law_542 : decode cL_law 542 = .ok (.iload_n 3, 1) := by decide +kernel
theorem dL_law_543 : decode cL_law 543 = .ok (.iconst 3, 1) := by decide +kernel
theorem dL_law_544 : decode cL_law 544 = .ok (.iadd, 1) := by decide +kernel
theorem dL_law_545 : decode cL_law 545 = .ok (.iaload, 1) := by decide +kernel
theorem dL_law_546 : decode cL_law 546 = .ok (.aload_n 0, 1) := by decide +kernel
theorem dL_law_547 : decode cL_law 547 = .ok (.iload_n 3, 1) := by decide +kernel
theorem dL_law_548 : decode cL_law 548 = .ok (.iconst 4, 1) := by decide +kernel
theorem dL_law_549 : decode cL_law 549 = .ok (.iadd, 1) := by decide +kernel
theorem dL_law_550 : decode cL_law 550 = .ok (.iaload, 1) := by decide +kernel
theorem dL_law_551 : decode cL_law 551 = .ok (.invokevirtual 65, 3) := by decide +kernel
theorem dL_law_554 : decode cL_law 554 = .ok (.if_icmp .eq 354, 3) := by decide +kernel
theorem dL_law_557 : decode cL_law 557 = .ok (.iconst 0, 1) := by decide +kernel
theorem dL_law_558 : decode cL_law 558 = .ok (.ireturn, 1) := by decide +kernel
theorem dL_law_559 : decode cL_law 559 = .ok (.aload_n 1, 1) := by decide +kernel
theorem dL_law_560 : decode cL_law 560 = .ok (.aload_n 0, 1) := by decide +kernel
theorem dL_law_561 : decode cL_law 561 = .ok (.iload_n 3, 1) := by decide +kernel
theorem dL_law_562 : decode cL_law 562 = .ok (.iconst 1, 1) := by decide +kernel
theorem dL_law_563 : decode cL_law 563 = .ok (.iadd, 1) := by decide +kernel
theorem dL_law_564 : decode cL_law 564 = .ok (.iaload, 1) := by decide +kernel
theorem dL_law_565 : decode cL_law 565 = .ok (.aload_n 0, 1) := by decide +kernel
theorem dL_law_566 : decode cL_law 566 = .ok (.iload_n 3, 1) := by decide +kernel
theorem dL_law_567 : decode cL_law 567 = .ok (.iconst 2, 1) := by decide +kernel
theorem dL_law_568 : decode cL_law 568 = .ok (.iadd, 1) := by decide +kernel
theorem dL_law_569 : decode cL_law 569 = .ok (.iaload, 1) := by decide +kernel
theorem dL_law_570 : decode cL_law 570 = .ok (.aload_n 0, 1) := by decide +kernel
theorem dL_law_571 : decode cL_law 571 = .ok (.iload_n 3, 1) := by decide +kernel
theorem dL_law_572 : decode cL_law 572 = .ok (.iconst 3, 1) := by decide +kernel
theorem dL_law_573 : decode cL_law 573 = .ok (.iadd, 1) := by decide +kernel
theorem dL_law_574 : decode cL_law 574 = .ok (.iaload, 1) := by decide +kernel
theorem dL_law_575 : decode cL_law 575 = .ok (.aload_n 0, 1) := by decide +kernel
theorem dL_law_576 : decode cL_law 576 = .ok (.iload_n 3, 1) := by decide +kernel
theorem dL_law_577 : decode cL_law 577 = .ok (.iconst 4, 1) := by decide +kernel
theorem dL_law_578 : decode cL_law 578 = .ok (.iadd, 1) := by decide +kernel
theorem dL_law_579 : decode cL_law 579 = .ok (.iaload, 1) := by decide +kernel
theorem dL_law_580 : decode cL_law 580 = .ok (.aload_n 0, 1) := by decide +kernel
theorem dL_law_581 : decode cL_law 581 = .ok (.iload_n 3, 1) := by decide +kernel
theorem dL_law_582 : decode cL_law 582 = .ok (.iconst 5, 1) := by decide +kernel
theorem dL_law_583 : decode cL_law 583 = .ok (.iadd, 1) := by decide +kernel
theorem dL_law_584 : decode cL_law 584 = .ok (.iaload, 1) := by decide +kernel
theorem dL_law_585 : decode cL_law 585 = .ok (.invokevirtual 66, 3) := by decide +kernel
theorem dL_law_588 : decode cL_law 588 = .ok (.aload_n 2, 1) := by decide +kernel
theorem dL_law_589 : decode cL_law 589 = .ok (.aload_n 0, 1) := by decide +kernel
theorem dL_law_590 : decode cL_law 590 = .ok (.iload_n 3, 1) := by decide +kernel
theorem dL_law_591 : decode cL_law 591 = .ok (.iconst 1, 1) := by decide +kernel
theorem dL_law_592 : decode cL_law 592 = .ok (.iadd, 1) := by decide +kernel
theorem dL_law_593 : decode cL_law 593 = .ok (.iaload, 1) := by decide +kernel
theorem dL_law_594 : decode cL_law 594 = .ok (.aload_n 0, 1) := by decide +kernel
theorem dL_law_595 : decode cL_law 595 = .ok (.iload_n 3, 1) := by decide +kernel
theorem dL_law_596 : decode cL_law 596 = .ok (.iconst 2, 1) := by decide +kernel
theorem dL_law_597 : decode cL_law 597 = .ok (.iadd, 1) := by decide +kernel
theorem dL_law_598 : decode cL_law 598 = .ok (.iaload, 1) := by decide +kernel
theorem dL_law_599 : decode cL_law 599 = .ok (.aload_n 0, 1) := by decide +kernel
theorem dL_law_600 : decode cL_law 600 = .ok (.iload_n 3, 1) := by decide +kernel
theorem dL_law_601 : decode cL_law 601 = .ok (.iconst 3, 1) := by decide +kernel
theorem dL_law_602 : decode cL_law 602 = .ok (.iadd, 1) := by decide +kernel
theorem dL_law_603 : decode cL_law 603 = .ok (.iaload, 1) := by decide +kernel
theorem dL_law_604 : decode cL_law 604 = .ok (.aload_n 0, 1) := by decide +kernel
theorem dL_law_605 : decode cL_law 605 = .ok (.iload_n 3, 1) := by decide +kernel
theorem dL_law_606 : decode cL_law 606 = .ok (.iconst 4, 1) := by decide +kernel
theorem dL_law_607 : decode cL_law 607 = .ok (.iadd, 1) := by decide +kernel
theorem dL_law_608 : decode cL_law 608 = .ok (.iaload, 1) := by decide +kernel
theorem dL_law_609 : decode cL_law 609 = .ok (.aload_n 0, 1) := by decide +kernel
theorem dL_law_610 : decode cL_law 610 = .ok (.iload_n 3, 1) := by decide +kernel
theorem dL_law_611 : decode cL_law 611 = .ok (.iconst 5, 1) := by decide +kernel
theorem dL_law_612 : decode cL_law 612 = .ok (.iadd, 1) := by decide +kernel
theorem dL_law_613 : decode cL_law 613 = .ok (.iaload, 1) := by decide +kernel
theorem dL_law_614 : decode cL_law 614 = .ok (.invokevirtual 70, 3) := by decide +kernel
theorem dL_law_617 : decode cL_law 617 = .ok (.if_icmp .eq 291, 3) := by decide +kernel
theorem dL_law_620 : decode cL_law 620 = .ok (.iconst 0, 1) := by decide +kernel
theorem dL_law_621 : decode cL_law 621 = .ok (.ireturn, 1) := by decide +kernel
theorem dL_law_622 : decode cL_law 622 = .ok (.aload_n 1, 1) := by decide +kernel
theorem dL_law_623 : decode cL_law 623 = .ok (.aload_n 0, 1) := by decide +kernel
theorem dL_law_624 : decode cL_law 624 = .ok (.iload_n 3, 1) := by decide +kernel
theorem dL_law_625 : decode cL_law 625 = .ok (.iconst 1, 1) := by decide +kernel
theorem dL_law_626 : decode cL_law 626 = .ok (.iadd, 1) := by decide +kernel
theorem dL_law_627 : decode cL_law 627 = .ok (.iaload, 1) := by decide +kernel
theorem dL_law_628 : decode cL_law 628 = .ok (.invokevirtual 71, 3) := by decide +kernel
theorem dL_law_631 : decode cL_law 631 = .ok (.aload_n 2, 1) := by decide +kernel
theorem dL_law_632 : decode cL_law 632 = .ok (.aload_n 0, 1) := by decide +kernel
theorem dL_law_633 : decode cL_law 633 = .ok (.iload_n 3, 1) := by decide +kernel
theorem dL_law_634 : decode cL_law 634 = .ok (.iconst 1, 1) := by decide +kernel
theorem dL_law_635 : decode cL_law 635 = .ok (.iadd, 1) := by decide +kernel
theorem dL_law_636 : decode cL_law 636 = .ok (.iaload, 1) := by decide +kernel
theorem dL_law_637 : decode cL_law 637 = .ok (.invokevirtual 74, 3) := by decide +kernel
theorem dL_law_640 : decode cL_law 640 = .ok (.if_icmp .eq 268, 3) := by decide +kernel
theorem dL_law_643 : decode cL_law 643 = .ok (.iconst 0, 1) := by decide +kernel
theorem dL_law_644 : decode cL_law 644 = .ok (.ireturn, 1) := by decide +kernel
theorem dL_law_645 : decode cL_law 645 = .ok (.aload_n 1, 1) := by decide +kernel
theorem dL_law_646 : decode cL_law 646 = .ok (.aload_n 0, 1) := by decide +kernel
theorem dL_law_647 : decode cL_law 647 = .ok (.iload_n 3, 1) := by decide +kernel
theorem dL_law_648 : decode cL_law 648 = .ok (.iconst 1, 1) := by decide +kernel
theorem dL_law_649 : decode cL_law 649 = .ok (.iadd, 1) := by decide +kernel
theorem dL_law_650 : decode cL_law 650 = .ok (.iaload, 1) := by decide +kernel
theorem dL_law_651 : decode cL_law 651 = .ok (.invokevirtual 75, 3) := by decide +kernel
theorem dL_law_654 : decode cL_law 654 = .ok (.aload_n 2, 1) := by decide +kernel
theorem dL_law_655 : decode cL_law 655 = .ok (.aload_n 0, 1) := by decide +kernel
theorem dL_law_656 : decode cL_law 656 = .ok (.iload_n 3, 1) := by decide +kernel
theorem dL_law_657 : decode cL_law 657 = .ok (.iconst 1, 1) := by decide +kernel
theorem dL_law_658 : decode cL_law 658 = .ok (.iadd, 1) := by decide +kernel
theorem dL_law_659 : decode cL_law 659 = .ok (.iaload, 1) := by decide +kernel
theorem dL_law_660 : decode cL_law 660 = .ok (.invokevirtual 78, 3) := by decide +kernel
theorem dL_law_663 : decode cL_law 663 = .ok (.if_icmp .eq 245, 3) := by decide +kernel
theorem dL_law_666 : decode cL_law 666 = .ok (.iconst 0, 1) := by decide +kernel
theorem dL_law_667 : decode cL_law 667 = .ok (.ireturn, 1) := by decide +kernel
theorem dL_law_668 : decode cL_law 668 = .ok (.aload_n 1, 1) := by decide +kernel
theorem dL_law_669 : decode cL_law 669 = .ok (.aload_n 0, 1) := by decide +kernel
theorem dL_law_670 : decode cL_law 670 = .ok (.iload_n 3, 1) := by decide +kernel
theorem dL_law_671 : decode cL_law 671 = .ok (.iconst 1, 1) := by decide +kernel
theorem dL_law_672 : decode cL_law 672 = .ok (.iadd, 1) := by decide +kernel
theorem dL_law_673 : decode cL_law 673 = .ok (.iaload, 1) := by decide +kernel
theorem dL_law_674 : decode cL_law 674 = .ok (.invokevirtual 79, 3) := by decide +kernel
theorem dL_law_677 : decode cL_law 677 = .ok (.aload_n 2, 1) := by decide +kernel
theorem dL_law_678 : decode cL_law 678 = .ok (.aload_n 0, 1) := by decide +kernel
theorem dL_law_679 : decode cL_law 679 = .ok (.iload_n 3, 1) := by decide +kernel
theorem dL_law_680 : decode cL_law 680 = .ok (.iconst 1, 1) := by decide +kernel
theorem dL_law_681 : decode cL_law 681 = .ok (.iadd, 1) := by decide +kernel
theorem dL_law_682 : decode cL_law 682 = .ok (.iaload, 1) := by decide +kernel
theorem dL_law_683 : decode cL_law 683 = .ok (.invokevirtual 82, 3) := by decide +kernel
theorem dL_law_686 : decode cL_law 686 = .ok (.if_icmp .eq 222, 3) := by decide +kernel
theorem dL_law_689 : decode cL_law 689 = .ok (.iconst 0, 1) := by decide +kernel
theorem dL_law_690 : decode cL_law 690 = .ok (.ireturn, 1) := by decide +kernel
theorem dL_law_691 : decode cL_law 691 = .ok (.aload_n 1, 1) := by decide +kernel
theorem dL_law_692 : decode cL_law 692 = .ok (.aload_n 0, 1) := by decide +kernel
theorem dL_law_693 : decode cL_law 693 = .ok (.iload_n 3, 1) := by decide +kernel
theorem dL_law_694 : decode cL_law 694 = .ok (.iconst 1, 1) := by decide +kernel
theorem dL_law_695 : decode cL_law 695 = .ok (.iadd, 1) := by decide +kernel
theorem dL_law_696 : decode cL_law 696 = .ok (.iaload, 1) := by decide +kernel
theorem dL_law_697 : decode cL_law 697 = .ok (.invokevirtual 83, 3) := by decide +kernel
theorem dL_law_700 : decode cL_law 700 = .ok (.aload_n 2, 1) := by decide +kernel
theorem dL_law_701 : decode cL_law 701 = .ok (.aload_n 0, 1) := by decide +kernel
theorem dL_law_702 : decode cL_law 702 = .ok (.iload_n 3, 1) := by decide +kernel
theorem dL_law_703 : decode cL_law 703 = .ok (.iconst 1, 1) := by decide +kernel
theorem dL_law_704 : decode cL_law 704 = .ok (.iadd, 1) := by decide +kernel
theorem dL_law_705 : decode cL_law 705 = .ok (.iaload, 1) := by decide +kernel
theorem dL_law_706 : decode cL_law 706 = .ok (.invokevirtual 86, 3) := by decide +kernel
theorem dL_law_709 : decode cL_law 709 = .ok (.if_icmp .eq 199, 3) := by decide +kernel
theorem dL_law_712 : decode cL_law 712 = .ok (.iconst 0, 1) := by decide +kernel
theorem dL_law_713 : decode cL_law 713 = .ok (.ireturn, 1) := by decide +kernel
theorem dL_law_714 : decode cL_law 714 = .ok (.aload_n 1, 1) := by decide +kernel
theorem dL_law_715 : decode cL_law 715 = .ok (.aload_n 0, 1) := by decide +kernel
theorem dL_law_716 : decode cL_law 716 = .ok (.iload_n 3, 1) := by decide +kernel
theorem dL_law_717 : decode cL_law 717 = .ok (.iconst 1, 1) := by decide +kernel
theorem dL_law_718 : decode cL_law 718 = .ok (.iadd, 1) := by decide +kernel
theorem dL_law_719 : decode cL_law 719 = .ok (.iaload, 1) := by decide +kernel
theorem dL_law_720 : decode cL_law 720 = .ok (.invokevirtual 87, 3) := by decide +kernel
theorem dL_law_723 : decode cL_law 723 = .ok (.aload_n 2, 1) := by decide +kernel
theorem dL_law_724 : decode cL_law 724 = .ok (.aload_n 0, 1) := by decide +kernel
theorem dL_law_725 : decode cL_law 725 = .ok (.iload_n 3, 1) := by decide +kernel
theorem dL_law_726 : decode cL_law 726 = .ok (.iconst 1, 1) := by decide +kernel
theorem dL_law_727 : decode cL_law 727 = .ok (.iadd, 1) := by decide +kernel
theorem dL_law_728 : decode cL_law 728 = .ok (.iaload, 1) := by decide +kernel
theorem dL_law_729 : decode cL_law 729 = .ok (.invokevirtual 90, 3) := by decide +kernel
theorem dL_law_732 : decode cL_law 732 = .ok (.if_icmp .eq 176, 3) := by decide +kernel
theorem dL_law_735 : decode cL_law 735 = .ok (.iconst 0, 1) := by decide +kernel
theorem dL_law_736 : decode cL_law 736 = .ok (.ireturn, 1) := by decide +kernel
theorem dL_law_737 : decode cL_law 737 = .ok (.aload_n 1, 1) := by decide +kernel
theorem dL_law_738 : decode cL_law 738 = .ok (.aload_n 0, 1) := by decide +kernel
theorem dL_law_739 : decode cL_law 739 = .ok (.iload_n 3, 1) := by decide +kernel
theorem dL_law_740 : decode cL_law 740 = .ok (.iconst 1, 1) := by decide +kernel
theorem dL_law_741 : decode cL_law 741 = .ok (.iadd, 1) := by decide +kernel
theorem dL_law_742 : decode cL_law 742 = .ok (.iaload, 1) := by decide +kernel
theorem dL_law_743 : decode cL_law 743 = .ok (.invokevirtual 91, 3) := by decide +kernel
theorem dL_law_746 : decode cL_law 746 = .ok (.aload_n 2, 1) := by decide +kernel
theorem dL_law_747 : decode cL_law 747 = .ok (.aload_n 0, 1) := by decide +kernel
theorem dL_law_748 : decode cL_law 748 = .ok (.iload_n 3, 1) := by decide +kernel
theorem dL_law_749 : decode cL_law 749 = .ok (.iconst 1, 1) := by decide +kernel
theorem dL_law_750 : decode cL_law 750 = .ok (.iadd, 1) := by decide +kernel
theorem dL_law_751 : decode cL_law 751 = .ok (.iaload, 1) := by decide +kernel
theorem dL_law_752 : decode cL_law 752 = .ok (.invokevirtual 94, 3) := by decide +kernel
theorem dL_law_755 : decode cL_law 755 = .ok (.if_icmp .eq 153, 3) := by decide +kernel
theorem dL_law_758 : decode cL_law 758 = .ok (.iconst 0, 1) := by decide +kernel
theorem dL_law_759 : decode cL_law 759 = .ok (.ireturn, 1) := by decide +kernel
theorem dL_law_760 : decode cL_law 760 = .ok (.aload_n 1, 1) := by decide +kernel
theorem dL_law_761 : decode cL_law 761 = .ok (.aload_n 0, 1) := by decide +kernel
theorem dL_law_762 : decode cL_law 762 = .ok (.iload_n 3, 1) := by decide +kernel
theorem dL_law_763 : decode cL_law 763 = .ok (.iconst 1, 1) := by decide +kernel
theorem dL_law_764 : decode cL_law 764 = .ok (.iadd, 1) := by decide +kernel
theorem dL_law_765 : decode cL_law 765 = .ok (.iaload, 1) := by decide +kernel
theorem dL_law_766 : decode cL_law 766 = .ok (.aload_n 0, 1) := by decide +kernel
theorem dL_law_767 : decode cL_law 767 = .ok (.iload_n 3, 1) := by decide +kernel
theorem dL_law_768 : decode cL_law 768 = .ok (.iconst 2, 1) := by decide +kernel
theorem dL_law_769 : decode cL_law 769 = .ok (.iadd, 1) := by decide +kernel
theorem dL_law_770 : decode cL_law 770 = .ok (.iaload, 1) := by decide +kernel
theorem dL_law_771 : decode cL_law 771 = .ok (.invokevirtual 95, 3) := by decide +kernel
theorem dL_law_774 : decode cL_law 774 = .ok (.aload_n 2, 1) := by decide +kernel
theorem dL_law_775 : decode cL_law 775 = .ok (.aload_n 0, 1) := by decide +kernel
theorem dL_law_776 : decode cL_law 776 = .ok (.iload_n 3, 1) := by decide +kernel
theorem dL_law_777 : decode cL_law 777 = .ok (.iconst 1, 1) := by decide +kernel
theorem dL_law_778 : decode cL_law 778 = .ok (.iadd, 1) := by decide +kernel
theorem dL_law_779 : decode cL_law 779 = .ok (.iaload, 1) := by decide +kernel
theorem dL_law_780 : decode cL_law 780 = .ok (.aload_n 0, 1) := by decide +kernel
theorem dL_law_781 : decode cL_law 781 = .ok (.iload_n 3, 1) := by decide +kernel
theorem dL_law_782 : decode cL_law 782 = .ok (.iconst 2, 1) := by decide +kernel
theorem dL_law_783 : decode cL_law 783 = .ok (.iadd, 1) := by decide +kernel
theorem dL_law_784 : decode cL_law 784 = .ok (.iaload, 1) := by decide +kernel
theorem dL_law_785 : decode cL_law 785 = .ok (.invokevirtual 98, 3) := by decide +kernel
theorem dL_law_788 : decode cL_law 788 = .ok (.if_icmp .eq 120, 3) := by decide +kernel
theorem dL_law_791 : decode cL_law 791 = .ok (.iconst 0, 1) := by decide +kernel
theorem dL_law_792 : decode cL_law 792 = .ok (.ireturn, 1) := by decide +kernel
theorem dL_law_793 : decode cL_law 793 = .ok (.aload_n 1, 1) := by decide +kernel
theorem dL_law_794 : decode cL_law 794 = .ok (.aload_n 0, 1) := by decide +kernel
theorem dL_law_795 : decode cL_law 795 = .ok (.iload_n 3, 1) := by decide +kernel
theorem dL_law_796 : decode cL_law 796 = .ok (.iconst 1, 1) := by decide +kernel
theorem dL_law_797 : decode cL_law 797 = .ok (.iadd, 1) := by decide +kernel
theorem dL_law_798 : decode cL_law 798 = .ok (.iaload, 1) := by decide +kernel
theorem dL_law_799 : decode cL_law 799 = .ok (.invokevirtual 99, 3) := by decide +kernel
theorem dL_law_802 : decode cL_law 802 = .ok (.aload_n 2, 1) := by decide +kernel
theorem dL_law_803 : decode cL_law 803 = .ok (.aload_n 0, 1) := by decide +kernel
theorem dL_law_804 : decode cL_law 804 = .ok (.iload_n 3, 1) := by decide +kernel
theorem dL_law_805 : decode cL_law 805 = .ok (.iconst 1, 1) := by decide +kernel
theorem dL_law_806 : decode cL_law 806 = .ok (.iadd, 1) := by decide +kernel
theorem dL_law_807 : decode cL_law 807 = .ok (.iaload, 1) := by decide +kernel
theorem dL_law_808 : decode cL_law 808 = .ok (.invokevirtual 102, 3) := by decide +kernel
theorem dL_law_811 : decode cL_law 811 = .ok (.if_icmp .eq 97, 3) := by decide +kernel
theorem dL_law_814 : decode cL_law 814 = .ok (.iconst 0, 1) := by decide +kernel
theorem dL_law_815 : decode cL_law 815 = .ok (.ireturn, 1) := by decide +kernel
theorem dL_law_816 : decode cL_law 816 = .ok (.aload_n 1, 1) := by decide +kernel
theorem dL_law_817 : decode cL_law 817 = .ok (.aload_n 0, 1) := by decide +kernel
theorem dL_law_818 : decode cL_law 818 = .ok (.iload_n 3, 1) := by decide +kernel
theorem dL_law_819 : decode cL_law 819 = .ok (.iconst 1, 1) := by decide +kernel
theorem dL_law_820 : decode cL_law 820 = .ok (.iadd, 1) := by decide +kernel
theorem dL_law_821 : decode cL_law 821 = .ok (.iaload, 1) := by decide +kernel
theorem dL_law_822 : decode cL_law 822 = .ok (.invokevirtual 103, 3) := by decide +kernel
theorem dL_law_825 : decode cL_law 825 = .ok (.aload_n 2, 1) := by decide +kernel
theorem dL_law_826 : decode cL_law 826 = .ok (.aload_n 0, 1) := by decide +kernel
theorem dL_law_827 : decode cL_law 827 = .ok (.iload_n 3, 1) := by decide +kernel
theorem dL_law_828 : decode cL_law 828 = .ok (.iconst 1, 1) := by decide +kernel
theorem dL_law_829 : decode cL_law 829 = .ok (.iadd, 1) := by decide +kernel
theorem dL_law_830 : decode cL_law 830 = .ok (.iaload, 1) := by decide +kernel
theorem dL_law_831 : decode cL_law 831 = .ok (.invokevirtual 106, 3) := by decide +kernel
theorem dL_law_834 : decode cL_law 834 = .ok (.if_icmp .eq 74, 3) := by decide +kernel
theorem dL_law_837 : decode cL_law 837 = .ok (.iconst 0, 1) := by decide +kernel
theorem dL_law_838 : decode cL_law 838 = .ok (.ireturn, 1) := by decide +kernel
theorem dL_law_839 : decode cL_law 839 = .ok (.aload_n 1, 1) := by decide +kernel
theorem dL_law_840 : decode cL_law 840 = .ok (.aload_n 0, 1) := by decide +kernel
theorem dL_law_841 : decode cL_law 841 = .ok (.iload_n 3, 1) := by decide +kernel
theorem dL_law_842 : decode cL_law 842 = .ok (.iconst 1, 1) := by decide +kernel
theorem dL_law_843 : decode cL_law 843 = .ok (.iadd, 1) := by decide +kernel
theorem dL_law_844 : decode cL_law 844 = .ok (.iaload, 1) := by decide +kernel
theorem dL_law_845 : decode cL_law 845 = .ok (.invokevirtual 107, 3) := by decide +kernel
theorem dL_law_848 : decode cL_law 848 = .ok (.aload_n 2, 1) := by decide +kernel
theorem dL_law_849 : decode cL_law 849 = .ok (.aload_n 0, 1) := by decide +kernel
theorem dL_law_850 : decode cL_law 850 = .ok (.iload_n 3, 1) := by decide +kernel
theorem dL_law_851 : decode cL_law 851 = .ok (.iconst 1, 1) := by decide +kernel
theorem dL_law_852 : decode cL_law 852 = .ok (.iadd, 1) := by decide +kernel
theorem dL_law_853 : decode cL_law 853 = .ok (.iaload, 1) := by decide +kernel
theorem dL_law_854 : decode cL_law 854 = .ok (.invokevirtual 110, 3) := by decide +kernel
theorem dL_law_857 : decode cL_law 857 = .ok (.if_icmp .eq 51, 3) := by decide +kernel
theorem dL_law_860 : decode cL_law 860 = .ok (.iconst 0, 1) := by decide +kernel
theorem dL_law_861 : decode cL_law 861 = .ok (.ireturn, 1) := by decide +kernel
theorem dL_law_862 : decode cL_law 862 = .ok (.aload_n 1, 1) := by decide +kernel
theorem dL_law_863 : decode cL_law 863 = .ok (.aload_n 0, 1) := by decide +kernel
theorem dL_law_864 : decode cL_law 864 = .ok (.iload_n 3, 1) := by decide +kernel
theorem dL_law_865 : decode cL_law 865 = .ok (.iconst 1, 1) := by decide +kernel
theorem dL_law_866 : decode cL_law 866 = .ok (.iadd, 1) := by decide +kernel
theorem dL_law_867 : decode cL_law 867 = .ok (.iaload, 1) := by decide +kernel
theorem dL_law_868 : decode cL_law 868 = .ok (.invokevirtual 111, 3) := by decide +kernel
theorem dL_law_871 : decode cL_law 871 = .ok (.aload_n 2, 1) := by decide +kernel
theorem dL_law_872 : decode cL_law 872 = .ok (.aload_n 0, 1) := by decide +kernel
theorem dL_law_873 : decode cL_law 873 = .ok (.iload_n 3, 1) := by decide +kernel
theorem dL_law_874 : decode cL_law 874 = .ok (.iconst 1, 1) := by decide +kernel
theorem dL_law_875 : decode cL_law 875 = .ok (.iadd, 1) := by decide +kernel
theorem dL_law_876 : decode cL_law 876 = .ok (.iaload, 1) := by decide +kernel
theorem dL_law_877 : decode cL_law 877 = .ok (.invokevirtual 114, 3) := by decide +kernel
theorem dL_law_880 : decode cL_law 880 = .ok (.if_icmp .eq 28, 3) := by decide +kernel
theorem dL_law_883 : decode cL_law 883 = .ok (.iconst 0, 1) := by decide +kernel
theorem dL_law_884 : decode cL_law 884 = .ok (.ireturn, 1) := by decide +kernel
theorem dL_law_885 : decode cL_law 885 = .ok (.aload_n 1, 1) := by decide +kernel
theorem dL_law_886 : decode cL_law 886 = .ok (.aload_n 0, 1) := by decide +kernel
theorem dL_law_887 : decode cL_law 887 = .ok (.iload_n 3, 1) := by decide +kernel
theorem dL_law_888 : decode cL_law 888 = .ok (.iconst 1, 1) := by decide +kernel
theorem dL_law_889 : decode cL_law 889 = .ok (.iadd, 1) := by decide +kernel
theorem dL_law_890 : decode cL_law 890 = .ok (.iaload, 1) := by decide +kernel
theorem dL_law_891 : decode cL_law 891 = .ok (.invokevirtual 115, 3) := by decide +kernel
theorem dL_law_894 : decode cL_law 894 = .ok (.aload_n 2, 1) := by decide +kernel
theorem dL_law_895 : decode cL_law 895 = .ok (.aload_n 0, 1) := by decide +kernel
theorem dL_law_896 : decode cL_law 896 = .ok (.iload_n 3, 1) := by decide +kernel
theorem dL_law_897 : decode cL_law 897 = .ok (.iconst 1, 1) := by decide +kernel
theorem dL_law_898 : decode cL_law 898 = .ok (.iadd, 1) := by decide +kernel
theorem dL_law_899 : decode cL_law 899 = .ok (.iaload, 1) := by decide +kernel
theorem dL_law_900 : decode cL_law 900 = .ok (.invokevirtual 118, 3) := by decide +kernel
theorem dL_law_903 : decode cL_law 903 = .ok (.if_icmp .eq 5, 3) := by decide +kernel
theorem dL_law_906 : decode cL_law 906 = .ok (.iconst 0, 1) := by decide +kernel
theorem dL_law_907 : decode cL_law 907 = .ok (.ireturn, 1) := by decide +kernel
theorem dL_law_908 : decode cL_law 908 = .ok (.iinc 3 6, 3) := by decide +kernel
theorem dL_law_911 : decode cL_law 911 = .ok (.goto (-893), 3) := by decide +kernel
theorem dL_law_914 : decode cL_law 914 = .ok (.iconst 1, 1) := by decide +kernel
theorem dL_law_915 : decode cL_law 915 = .ok (.ireturn, 1) := by decide +kernel
end
section
/-! ===== 03: the world of the claim: 292 cells from o on (class: 0 to 284, reference: 285 to 291) ===== -/
abbrev GG : Type := va_G × (Nat → ClassId)
abbrev SX : Type := Nat → Nat → Int32
abbrev SY : Type := Nat → Nat → Int64
abbrev tysG (G : GG) : List (ClassId × FieldType) := [(G.2 0, .int), (G.2 1, .long), (G.2 2, .boolean), (G.2 3, .object "GrindingCircuit$Lot"), (G.2 4, .object "GrindingCircuit$Plant"), (G.2 5, .array .int)]
def KK (G : GG) (U : State) : Prop := va_K G.1 vwCl (tysG G) U ∧ va_Nw (.methodLinkNest RX2 33 yX5_isSize RX5) U ∧ va_Nw (.methodLinkNest RX0 34 yX5_sum RX5) U ∧ va_Nw (.methodLinkNest RX3 118 yX5_sum RX5) U
theorem KK.warm {G : GG} {s U : State} (hW : s.WarmedH U.vm) (h : KK G s) : KK G U := ⟨va_K.moved hW.alike h.1, va_Nw.warmM hW h.2.1, va_Nw.warmM hW h.2.2.1, va_Nw.warmM hW h.2.2.2⟩
theorem KK.calling {G : GG} {U : State} {g : JFrame} {mk : MethodId} {a : Array Value} (h : KK G U) : KK G (U.calling g mk a) := ⟨va_K.moved (u := U) (U := U.calling g mk a) (Vm.Alike.refl U.vm) h.1, va_Nw.same rfl rfl h.2.1, va_Nw.same rfl rfl h.2.2.1, va_Nw.same rfl rfl h.2.2.2⟩
/-- the cells of a plant whose first cell is o + d -/
def pshp (G : GG) (o d j : Nat) (f : Nat → Int32) : va_E := match j with
  | 0 => .inr (1, [.ref (o + (d + 1)), .ref (o + (d + 10))])
  | 1 => .inr (2, [.ref (o + (d + 2)), .ref (o + (d + 7)), .ref (o + (d + 8)), .ref (o + (d + 9)), .int (f 4), .int (f 5)])
  | 2 => .inl (G.2 5, 4, .inr (.inr (.inr (.inr (fun i => if i < 4 then some (o + (d + (3 + i))) else none)))))
  | 3 => .inl (G.2 0, 4, .inl f)
  | 4 => .inl (G.2 0, 4, .inl f)
  | 5 => .inl (G.2 0, 4, .inl f)
  | 6 => .inl (G.2 0, 4, .inl f)
  | 7 => .inl (G.2 0, 4, .inl f)
  | 8 => .inl (G.2 0, 4, .inl f)
  | 9 => .inl (G.2 0, 4, .inl f)
  | 10 => .inr (3, [.ref (o + (d + 11)), .ref (o + (d + 12)), .int (f 2), .int (f 3), .int (f 4), .int (f 5), .int (f 6), .int (f 7), .int (f 8)])
  | 11 => .inl (G.2 3, 40, .inr (.inr (.inr (.inr (fun i => if i < 40 then some (o + (d + (13 + 2 * i))) else none)))))
  | 12 => .inl (G.2 0, 4, .inl f)
  | k + 13 => if k % 2 = 0 then .inr (0, [.ref (o + (d + (k + 14))), .int (f 1), .int (f 2), .int (f 3), .int (f 4)]) else .inl (G.2 0, 4, .inl f)
def shp (G : GG) (o k : Nat) (f : Nat → Int32) (g : Nat → Int64) : va_E :=
  if k = 0 then .inr (5, [.ref (o + 1), .ref (o + 94), .ref (o + 281), .ref (o + 282)])
  else if k < 94 then pshp G o 1 (k - 1) f
  else if k = 94 then .inl (G.2 4, 2, .inr (.inr (.inr (.inr (fun i => if i = 0 then some (o + 95) else if i = 1 then some (o + 188) else none)))))
  else if k < 188 then pshp G o 95 (k - 95) f
  else if k < 281 then pshp G o 188 (k - 188) f
  else if k = 281 then .inl (G.2 2, 2, .inl f)
  else if k = 282 then .inr (4, [.ref (o + 283), .ref (o + 284), .long (g 2), .int (f 3)])
  else if k = 283 then .inl (G.2 1, 4, .inr (.inl g))
  else if k = 284 then .inl (G.2 0, 4, .inl f)
  else if k = 285 then .inr (6, [.ref (o + 286), .ref (o + 287), .ref (o + 288), .ref (o + 289), .ref (o + 290), .long (g 5), .ref (o + 291)])
  else if k = 286 then .inl (G.2 0, 361, .inl f)
  else if k = 287 then .inl (G.2 0, 722, .inl f)
  else if k = 288 then .inl (G.2 2, 2, .inl f)
  else if k = 289 then .inl (G.2 0, 4, .inl f)
  else if k = 290 then .inl (G.2 1, 4, .inr (.inl g))
  else .inl (G.2 0, 4, .inl f)
def wl (G : GG) (o : Nat) (X : SX) (Y : SY) : va_W := (List.range 292).map (fun k => (o + k, shp G o k (X k) (Y k)))
def rg (o : Nat) : Nat → Prop := fun q => o ≤ q ∧ q < o + 292
theorem wl_at {G : GG} {o : Nat} {X : SX} {Y : SY} {k : Nat} {e : va_E} (hk : k < 292) (he : shp G o k (X k) (Y k) = e) : (wl G o X Y)[k]? = some (o + k, e) := by
  unfold wl
  rw [List.getElem?_map, List.getElem?_range hk]
  exact congrArg (fun z => some (o + k, z)) he
theorem wl_inv {G : GG} {o : Nat} {X : SX} {Y : SY} {k : Nat} {q : Nat × va_E} (h : (wl G o X Y)[k]? = some q) : k < 292 ∧ q = (o + k, shp G o k (X k) (Y k)) := by
  have hl : k < (wl G o X Y).length := (List.getElem?_eq_some_iff.mp h).1
  have hk : k < 292 := by simpa [wl] using hl
  rw [wl_at hk rfl] at h
  exact ⟨hk, (Option.some.inj h).symm⟩
theorem wl_D {G : GG} {o : Nat} {X : SX} {Y : SY} : va_D (rg o) (wl G o X Y) := by
  refine ⟨fun i j p q hi hj hpq => ?_, fun k q hk => ?_⟩
  · obtain ⟨-, rfl⟩ := wl_inv hi
    obtain ⟨-, rfl⟩ := wl_inv hj
    have h : o + i = o + j := hpq
    omega
  · obtain ⟨h, rfl⟩ := wl_inv hk
    exact ⟨Nat.le_add_right _ _, by show o + k < o + 292; omega⟩
theorem wl_set {G : GG} {o : Nat} {X X2 : SX} {Y Y2 : SY} {k : Nat} {e : va_E} (hk : k < 292) (he : shp G o k (X2 k) (Y2 k) = e) (hx : ∀ a, a ≠ k → X2 a = X a) (hy : ∀ a, a ≠ k → Y2 a = Y a) : (wl G o X Y).set k (o + k, e) = wl G o X2 Y2 := by
  apply List.ext_getElem?
  intro i
  by_cases hi : i = k
  · subst hi
    rw [List.getElem?_set_self (by simpa [wl] using hk), wl_at hk he]
  · rw [List.getElem?_set_ne (Ne.symm hi)]
    by_cases hl : i < 292
    · rw [wl_at hl rfl, wl_at hl rfl, hx i hi, hy i hi]
    · rw [List.getElem?_eq_none (by simpa [wl] using hl), List.getElem?_eq_none (by simpa [wl] using hl)]
def sx (X : SX) (k i : Nat) (v : Int32) : SX := fun a => if a = k then upd (X a) i v else X a
def sy (Y : SY) (k i : Nat) (v : Int64) : SY := fun a => if a = k then vp_updL (Y a) i v else Y a
theorem sx_k {X : SX} {k i : Nat} {v : Int32} : sx X k i v k = upd (X k) i v := if_pos rfl
theorem sx_n {X : SX} {k i a : Nat} {v : Int32} (h : a ≠ k) : sx X k i v a = X a := if_neg h
theorem sy_k {X : SY} {k i : Nat} {v : Int64} : sy X k i v k = vp_updL (X k) i v := if_pos rfl
theorem sy_n {X : SY} {k i a : Nat} {v : Int64} (h : a ≠ k) : sy X k i v a = X a := if_neg h
theorem sx_e {X : SX} {k i : Nat} {v : Int32} : sx X k i v k i = v := by simp [sx, upd]
theorem sy_e {X : SY} {k i : Nat} {v : Int64} : sy X k i v k i = v := by simp [sy, vp_updL]
def In (G : GG) (o : Nat) (X : SX) (Y : SY) (H0 H : Heap) (locs : List Loc) : Prop := va_P G.1 vwCl (wl G o X Y) H ∧ va_S (rg o) H0 H locs
def Pre (av : List Value) (G : GG) (o : Nat) (X : SX) (Y : SY) : Array Value → State → Prop := fun v U => v = av.toArray ∧ KK G U ∧ va_P G.1 vwCl (wl G o X Y) U.heap
def Qw (G : GG) (o : Nat) (r : Option Value) (X : SX) (Y : SY) : Array Value → State → Outcome → State → Prop := fun _ st oc t => oc = .returned r ∧ va_P G.1 vwCl (wl G o X Y) t.heap ∧ va_F (rg o) st t
def wsG (y : MethodName) (cc : ByteArray) (n : Nat) (ret : Option FieldType) : List Cond := .code y cc n ret :: gt
abbrev Rm (f n : Nat) : Room := { frames := f, cells := 0, slots := 0, locals := n }
/-- a contract: with these arguments over this world the method answers r and leaves that world -/
abbrev Ct (l : Launch) (y : MethodName) (cc : ByteArray) (n : Nat) (ret : Option FieldType) (f lo : Nat) (G : GG) (o : Nat) (av : List Value) (X : SX) (Y : SY) (r : Option Value) (X' : SX) (Y' : SY) : Prop :=
  Met l y (wsG y cc n ret) (Rm f lo) (Pre av G o X Y) (Qw G o r X' Y') 0 0 (rg o)
theorem Pre.blind {av : List Value} {G : GG} {o : Nat} {X : SX} {Y : SY} : FrameBlind (Pre av G o X Y) := fun _ _ _ _ h => ⟨h.1, h.2.1.calling, h.2.2⟩
theorem wsG_good {y : MethodName} {cc : ByteArray} {n : Nat} {ret : Option FieldType} (h : Cond.code y cc n ret ∈ gt) : GoodIn gt (wsG y cc n ret) := by
  intro w hw
  rcases List.mem_cons.mp hw with rfl | hw
  · exact ⟨h, gt_good h⟩
  · exact ⟨hw, gt_good hw⟩
abbrev gE (p : Program) (m : MethodId) (c : Code) (cc : ByteArray) (nL : Nat) (s : State) (args : Array Value) (own : String) : Prop := CallFix p m c cc nL s args gt own
theorem Ct.mk {l : Launch} {y : MethodName} {cc : ByteArray} {n : Nat} {ret : Option FieldType} {f lo : Nat} {G : GG} {o : Nat} {av : List Value} {X X' : SX} {Y Y' : SY} {r : Option Value} {lv : List (Nat × Value)} (hy : plainName y.cls = true) (hl : (lg_sl av).length ≤ n) (hlv : lv_args 0 av = lv)
    (body : ∀ (p : Program) (e : Env) (s : State) (m : MethodId) (args : Array Value) (below : List Frame) (meth : Method) (c : Code), gE p m c cc n s args y.cls → meth.sig.returnType = ret → meth.locks = false → KK G s → In G o X Y s.heap s.heap [] → ∀ ls : Array Slot, lv_has ls n lv →
      W p l e (Rm f lo) s m args below meth c s.heap [] 0 0 (MQ below (Qw G o r X' Y') args s 0 0 (rg o)) (F0 m 0 ls [])) : Ct l y cc n ret f lo G o av X Y r X' Y' := by
  refine Met.ofW (cc := cc) (maxL := n) (ret := ret) hy rfl ?_
  intro p e s m args below meth c s₁ B hml hv
  obtain ⟨rfl, hK, hP⟩ := hv
  have hts := atoms_spec (ws := wsG y cc n ret) B.pre
  have hown : s.vm.findClass y.cls = some m.cls := findClass_of_methodNamed B.named
  rw [lg_entry_eq]
  exact body p e s m _ below meth c ⟨B.exec, B.bytes, hml, hown, fun w h => hts w (List.mem_cons_of_mem _ h)⟩ B.returns B.notSynchronized hK ⟨hP, va_S.rf⟩ _ (hlv ▸ lv_entry av hl)
section XR
variable {p : Program} {l : Launch} {e : Env} {R : Room} {s : State} {m : MethodId} {args : Array Value} {below : List Frame} {meth : Method} {c : Code} {H H0 : Heap} {locs : List Loc} {cells slots : Nat} {Q : State → Prop}
variable {cc : ByteArray} {pc nL : Nat} {ls : Array Slot} {rest : List Value} {own : String} {G : GG} {o : Nat} {X : SX} {Y : SY}
theorem x_get {C : String} {T : u_T} {N ci index k : Nat} {fs : List Value} {v : Value} (hE : gE p m c cc nL s args own) (hK : KK G s) (hI : In G o X Y H0 H locs) (hk : k < 292) (hin : ∀ w ∈ u_ws C T N, w ∈ gt) (he : shp G o k (X k) (Y k) = .inr (ci, fs)) (hc : vwCl[ci]? = some (C, T, N)) (i : Nat) (hi : i < N) (hlink : Cond.fieldLink own index (T i).1 (T i).2.1 (T i).2.2.1 ∈ gt) (hv : fs[i]? = some v) (hdg : decode cc pc = .ok (.getfield index, 3))
    (kk : W p l e R s m args below meth c H locs cells slots Q (F0 m (pc + 3) ls (v :: rest))) : W p l e R s m args below meth c H locs cells slots Q (F0 m pc ls (.ref (o + k) :: rest)) :=
  va_get (D := G.1) hE.1 hE.2.1 hE.2.2.2.2 hin hE.2.2.2.1 hK.1 hI.1 k (wl_at hk he) hc i hi (hE.2.2.2.2 _ hlink) (fun _ h => h) hv hdg kk
theorem x_put {C : String} {T : u_T} {N ci index k : Nat} {fs : List Value} {v : Value} {ty : FieldType} {X2 : SX} {Y2 : SY} (hE : gE p m c cc nL s args own) (hK : KK G s) (hI : In G o X Y H0 H locs) (hk : k < 292) (hin : ∀ w ∈ u_ws C T N, w ∈ gt) (ty0 : Nat → FieldType) (hty : ∀ k, k < N → parseFieldDescriptor (T k).2.2.1 = some (ty0 k)) (hnm : ∀ a, a < N → ∀ b, b < N → a ≠ b → (T a).2.1 ≠ (T b).2.1) (he : shp G o k (X k) (Y k) = .inr (ci, fs)) (hc : vwCl[ci]? = some (C, T, N)) (i : Nat) (hi : i < N) (hlink : Cond.fieldLink own index (T i).1 (T i).2.1 (T i).2.2.1 ∈ gt) (hfin : (T i).2.2.2 = false) (hd : parseFieldDescriptor (T i).2.2.1 = some ty) (hn : narrow ty v = v) (hfit : fits ty v = true) (hl : i < fs.length)
    (he2 : shp G o k (X2 k) (Y2 k) = .inr (ci, fs.set i v)) (hx : ∀ a, a ≠ k → X2 a = X a) (hy : ∀ a, a ≠ k → Y2 a = Y a) (hdg : decode cc pc = .ok (.putfield index, 3))
    (kk : ∀ (H1 : Heap) (locs1 : List Loc), In G o X2 Y2 H0 H1 locs1 → W p l e R s m args below meth c H1 locs1 cells slots Q (F0 m (pc + 3) ls rest)) : W p l e R s m args below meth c H locs cells slots Q (F0 m pc ls (v :: .ref (o + k) :: rest)) := by
  refine va_put (D := G.1) hE.1 hE.2.1 hE.2.2.2.2 hin ty0 hty hnm hE.2.2.2.1 hK.1 hI.1 wl_D hI.2 k (wl_at hk he) hc i hi (hE.2.2.2.2 _ hlink) (fun _ h => h) hfin hd hn hfit hl hdg (fun H1 locs1 hP hD hS => ?_)
  rw [wl_set hk he2 hx hy] at hP
  exact kk H1 locs1 ⟨hP, hS⟩
theorem x_puti {C : String} {T : u_T} {N ci index k : Nat} {fs : (Nat → Int32) → (Nat → Int64) → List Value} {v : Int32} (hE : gE p m c cc nL s args own) (hK : KK G s) (hI : In G o X Y H0 H locs) (hk : k < 292) (hin : ∀ w ∈ u_ws C T N, w ∈ gt) (ty0 : Nat → FieldType) (hty : ∀ k, k < N → parseFieldDescriptor (T k).2.2.1 = some (ty0 k)) (hnm : ∀ a, a < N → ∀ b, b < N → a ≠ b → (T a).2.1 ≠ (T b).2.1) (he : ∀ f g, shp G o k f g = .inr (ci, fs f g)) (hc : vwCl[ci]? = some (C, T, N)) (i : Nat) (hi : i < N) (hlink : Cond.fieldLink own index (T i).1 (T i).2.1 (T i).2.2.1 ∈ gt) (hfin : (T i).2.2.2 = false) (hd : parseFieldDescriptor (T i).2.2.1 = some .int) (hl : i < (fs (X k) (Y k)).length)
    (he2 : fs (upd (X k) i v) (Y k) = (fs (X k) (Y k)).set i (.int v)) (hdg : decode cc pc = .ok (.putfield index, 3))
    (kk : ∀ (H1 : Heap) (locs1 : List Loc), In G o (sx X k i v) Y H0 H1 locs1 → W p l e R s m args below meth c H1 locs1 cells slots Q (F0 m (pc + 3) ls rest)) : W p l e R s m args below meth c H locs cells slots Q (F0 m pc ls (.int v :: .ref (o + k) :: rest)) :=
  x_put (ty := .int) (X2 := sx X k i v) (Y2 := Y) hE hK hI hk hin ty0 hty hnm (he _ _) hc i hi hlink hfin hd rfl rfl hl (by rw [sx_k, he, he2]) (fun a h => sx_n h) (fun _ _ => rfl) hdg kk
theorem x_putz {C : String} {T : u_T} {N ci index k : Nat} {fs : (Nat → Int32) → (Nat → Int64) → List Value} {v : Int32} (hE : gE p m c cc nL s args own) (hK : KK G s) (hI : In G o X Y H0 H locs) (hk : k < 292) (hin : ∀ w ∈ u_ws C T N, w ∈ gt) (ty0 : Nat → FieldType) (hty : ∀ k, k < N → parseFieldDescriptor (T k).2.2.1 = some (ty0 k)) (hnm : ∀ a, a < N → ∀ b, b < N → a ≠ b → (T a).2.1 ≠ (T b).2.1) (he : ∀ f g, shp G o k f g = .inr (ci, fs f g)) (hc : vwCl[ci]? = some (C, T, N)) (i : Nat) (hi : i < N) (hlink : Cond.fieldLink own index (T i).1 (T i).2.1 (T i).2.2.1 ∈ gt) (hfin : (T i).2.2.2 = false) (hd : parseFieldDescriptor (T i).2.2.1 = some .boolean) (hl : i < (fs (X k) (Y k)).length) (hv : v = 0 ∨ v = 1)
    (he2 : fs (upd (X k) i v) (Y k) = (fs (X k) (Y k)).set i (.int v)) (hdg : decode cc pc = .ok (.putfield index, 3))
    (kk : ∀ (H1 : Heap) (locs1 : List Loc), In G o (sx X k i v) Y H0 H1 locs1 → W p l e R s m args below meth c H1 locs1 cells slots Q (F0 m (pc + 3) ls rest)) : W p l e R s m args below meth c H locs cells slots Q (F0 m pc ls (.int v :: .ref (o + k) :: rest)) :=
  x_put (ty := .boolean) (X2 := sx X k i v) (Y2 := Y) hE hK hI hk hin ty0 hty hnm (he _ _) hc i hi hlink hfin hd (by rcases hv with rfl | rfl <;> rfl) (by rcases hv with rfl | rfl <;> rfl) hl (by rw [sx_k, he, he2]) (fun a h => sx_n h) (fun _ _ => rfl) hdg kk
theorem x_putl {C : String} {T : u_T} {N ci index k : Nat} {fs : (Nat → Int32) → (Nat → Int64) → List Value} {v : Int64} (hE : gE p m c cc nL s args own) (hK : KK G s) (hI : In G o X Y H0 H locs) (hk : k < 292) (hin : ∀ w ∈ u_ws C T N, w ∈ gt) (ty0 : Nat → FieldType) (hty : ∀ k, k < N → parseFieldDescriptor (T k).2.2.1 = some (ty0 k)) (hnm : ∀ a, a < N → ∀ b, b < N → a ≠ b → (T a).2.1 ≠ (T b).2.1) (he : ∀ f g, shp G o k f g = .inr (ci, fs f g)) (hc : vwCl[ci]? = some (C, T, N)) (i : Nat) (hi : i < N) (hlink : Cond.fieldLink own index (T i).1 (T i).2.1 (T i).2.2.1 ∈ gt) (hfin : (T i).2.2.2 = false) (hd : parseFieldDescriptor (T i).2.2.1 = some .long) (hl : i < (fs (X k) (Y k)).length)
    (he2 : fs (X k) (vp_updL (Y k) i v) = (fs (X k) (Y k)).set i (.long v)) (hdg : decode cc pc = .ok (.putfield index, 3))
    (kk : ∀ (H1 : Heap) (locs1 : List Loc), In G o X (sy Y k i v) H0 H1 locs1 → W p l e R s m args below meth c H1 locs1 cells slots Q (F0 m (pc + 3) ls rest)) : W p l e R s m args below meth c H locs cells slots Q (F0 m pc ls (.long v :: .ref (o + k) :: rest)) :=
  x_put (ty := .long) (X2 := X) (Y2 := sy Y k i v) hE hK hI hk hin ty0 hty hnm (he _ _) hc i hi hlink hfin hd rfl rfl hl (by rw [sy_k, he, he2]) (fun _ _ => rfl) (fun a h => sy_n h) hdg kk
theorem x_iald {k n j : Nat} {idx : Int32} (hE : gE p m c cc nL s args own) (hK : KK G s) (hI : In G o X Y H0 H locs) (hk : k < 292) (he : ∀ f g, shp G o k f g = .inl (G.2 0, n, .inl f)) (hj : j < n) (hn : n < 2 ^ 31) (hi : idx = nI j) (hdg : decode cc pc = .ok (.iaload, 1))
    (kk : W p l e R s m args below meth c H locs cells slots Q (F0 m (pc + 1) ls (.int (X k j) :: rest))) : W p l e R s m args below meth c H locs cells slots Q (F0 m pc ls (.int idx :: .ref (o + k) :: rest)) := by
  subst hi
  refine va_iald (D := G.1) hE.1 hE.2.1 hK.1 hI.1 k 0 (wl_at hk (he _ _)) rfl (vp_in_nI hj hn) hdg ?_
  rw [nI_clamp (Nat.lt_trans hj hn)]
  exact kk
theorem x_zald {k n j : Nat} {idx : Int32} (hE : gE p m c cc nL s args own) (hK : KK G s) (hI : In G o X Y H0 H locs) (hk : k < 292) (he : ∀ f g, shp G o k f g = .inl (G.2 2, n, .inl f)) (hj : j < n) (hn : n < 2 ^ 31) (hi : idx = nI j) (hdg : decode cc pc = .ok (.baload, 1))
    (kk : W p l e R s m args below meth c H locs cells slots Q (F0 m (pc + 1) ls (.int (X k j) :: rest))) : W p l e R s m args below meth c H locs cells slots Q (F0 m pc ls (.int idx :: .ref (o + k) :: rest)) := by
  subst hi
  refine va_zald (D := G.1) hE.1 hE.2.1 hK.1 hI.1 k 2 (wl_at hk (he _ _)) rfl (vp_in_nI hj hn) hdg ?_
  rw [nI_clamp (Nat.lt_trans hj hn)]
  exact kk
theorem x_lald {k n j : Nat} {idx : Int32} (hE : gE p m c cc nL s args own) (hK : KK G s) (hI : In G o X Y H0 H locs) (hk : k < 292) (he : ∀ f g, shp G o k f g = .inl (G.2 1, n, .inr (.inl g))) (hj : j < n) (hn : n < 2 ^ 31) (hi : idx = nI j) (hdg : decode cc pc = .ok (.laload, 1))
    (kk : W p l e R s m args below meth c H locs cells slots Q (F0 m (pc + 1) ls (.long (Y k j) :: rest))) : W p l e R s m args below meth c H locs cells slots Q (F0 m pc ls (.int idx :: .ref (o + k) :: rest)) := by
  subst hi
  refine va_lald (D := G.1) hE.1 hE.2.1 hK.1 hI.1 k 1 (wl_at hk (he _ _)) rfl (vp_in_nI hj hn) hdg ?_
  rw [nI_clamp (Nat.lt_trans hj hn)]
  exact kk
theorem x_aald {k n j q t0 : Nat} {ty : FieldType} {cA : ClassId} {fr : Nat → Option Nat} {idx : Int32} (hE : gE p m c cc nL s args own) (hK : KK G s) (hI : In G o X Y H0 H locs) (hk : k < 292) (he : ∀ f g, shp G o k f g = .inl (cA, n, .inr (.inr (.inr (.inr fr))))) (ht : (tysG G)[t0]? = some (cA, ty)) (hty : ty.isReference = true) (hj : j < n) (hn : n < 2 ^ 31) (hi : idx = nI j) (hq : fr j = some q) (hdg : decode cc pc = .ok (.aaload, 1))
    (kk : W p l e R s m args below meth c H locs cells slots Q (F0 m (pc + 1) ls (.ref q :: rest))) : W p l e R s m args below meth c H locs cells slots Q (F0 m pc ls (.int idx :: .ref (o + k) :: rest)) := by
  subst hi
  have hin := vp_in_nI hj hn
  have hlt : (nI j).toNatClampNeg < n := by rw [nI_clamp (Nat.lt_trans hj hn)]; exact hj
  exact W.aald (v := .ref q) (ty := ty) hE.1 hE.2.1 (hI.1 k _ (wl_at hk (he _ _))) ((hK.1.2 t0 _ ht).1 n (fun j => va_rf (fr j))) hty (fun q => by cases q) (by show ¬ (nI j < 0 ∨ (arrV _ _ _).slots.size ≤ _); rw [arrV_size]; exact hin) (by show (arrV _ _ _).slots[_]? = _; rw [arrV_read _ _ hlt, nI_clamp (Nat.lt_trans hj hn), hq]; rfl) rfl rfl hdg kk
theorem x_alen {k t0 : Nat} {x : vp_A} {ty : FieldType} {cA : ClassId} {v : Int32} (hE : gE p m c cc nL s args own) (hK : KK G s) (hI : In G o X Y H0 H locs) (hk : k < 292) (he : shp G o k (X k) (Y k) = .inl (cA, x)) (ht : (tysG G)[t0]? = some (cA, ty)) (hv : Int32.ofNat x.1 = v) (hdg : decode cc pc = .ok (.arraylength, 1))
    (kk : W p l e R s m args below meth c H locs cells slots Q (F0 m (pc + 1) ls (.int v :: rest))) : W p l e R s m args below meth c H locs cells slots Q (F0 m pc ls (.ref (o + k) :: rest)) :=
  va_alen (D := G.1) hE.1 hE.2.1 hK.1 hI.1 k t0 (wl_at hk he) ht hv hdg kk
theorem x_iast {k n j : Nat} {idx x : Int32} (hE : gE p m c cc nL s args own) (hK : KK G s) (hI : In G o X Y H0 H locs) (hk : k < 292) (he : ∀ f g, shp G o k f g = .inl (G.2 0, n, .inl f)) (hj : j < n) (hn : n < 2 ^ 31) (hi : idx = nI j) (hdg : decode cc pc = .ok (.iastore, 1))
    (kk : ∀ (H1 : Heap) (locs1 : List Loc), In G o (sx X k j x) Y H0 H1 locs1 → W p l e R s m args below meth c H1 locs1 cells slots Q (F0 m (pc + 1) ls rest)) : W p l e R s m args below meth c H locs cells slots Q (F0 m pc ls (.int x :: .int idx :: .ref (o + k) :: rest)) := by
  subst hi
  refine va_iast (D := G.1) hE.1 hE.2.1 hK.1 hI.1 wl_D hI.2 k 0 (wl_at hk (he _ _)) rfl (vp_in_nI hj hn) hdg (fun H1 locs1 hP hD hS => kk H1 locs1 ⟨?_, hS⟩)
  rw [nI_clamp (Nat.lt_trans hj hn), wl_set (X2 := sx X k j x) (Y2 := Y) hk (by rw [sx_k, he]) (fun a h => sx_n h) (fun _ _ => rfl)] at hP
  exact hP
theorem x_zast {k n j : Nat} {idx x : Int32} (hE : gE p m c cc nL s args own) (hK : KK G s) (hI : In G o X Y H0 H locs) (hk : k < 292) (he : ∀ f g, shp G o k f g = .inl (G.2 2, n, .inl f)) (hj : j < n) (hn : n < 2 ^ 31) (hi : idx = nI j) (hx01 : x = 0 ∨ x = 1) (hdg : decode cc pc = .ok (.bastore, 1))
    (kk : ∀ (H1 : Heap) (locs1 : List Loc), In G o (sx X k j x) Y H0 H1 locs1 → W p l e R s m args below meth c H1 locs1 cells slots Q (F0 m (pc + 1) ls rest)) : W p l e R s m args below meth c H locs cells slots Q (F0 m pc ls (.int x :: .int idx :: .ref (o + k) :: rest)) := by
  subst hi
  have hx : vp_nar .boolean x = x := by rcases hx01 with rfl | rfl <;> rfl
  refine va_zast (D := G.1) hE.1 hE.2.1 hK.1 hI.1 wl_D hI.2 k 2 (wl_at hk (he _ _)) rfl (vp_in_nI hj hn) hdg (fun H1 locs1 hP hD hS => kk H1 locs1 ⟨?_, hS⟩)
  rw [hx, nI_clamp (Nat.lt_trans hj hn), wl_set (X2 := sx X k j x) (Y2 := Y) hk (by rw [sx_k, he]) (fun a h => sx_n h) (fun _ _ => rfl)] at hP
  exact hP
theorem x_last {k n j : Nat} {idx : Int32} {x : Int64} (hE : gE p m c cc nL s args own) (hK : KK G s) (hI : In G o X Y H0 H locs) (hk : k < 292) (he : ∀ f g, shp G o k f g = .inl (G.2 1, n, .inr (.inl g))) (hj : j < n) (hn : n < 2 ^ 31) (hi : idx = nI j) (hdg : decode cc pc = .ok (.lastore, 1))
    (kk : ∀ (H1 : Heap) (locs1 : List Loc), In G o X (sy Y k j x) H0 H1 locs1 → W p l e R s m args below meth c H1 locs1 cells slots Q (F0 m (pc + 1) ls rest)) : W p l e R s m args below meth c H locs cells slots Q (F0 m pc ls (.long x :: .int idx :: .ref (o + k) :: rest)) := by
  subst hi
  refine va_last (D := G.1) hE.1 hE.2.1 hK.1 hI.1 wl_D hI.2 k 1 (wl_at hk (he _ _)) rfl (vp_in_nI hj hn) hdg (fun H1 locs1 hP hD hS => kk H1 locs1 ⟨?_, hS⟩)
  rw [nI_clamp (Nat.lt_trans hj hn), wl_set (X2 := X) (Y2 := sy Y k j x) hk (by rw [sy_k, he]) (fun _ _ => rfl) (fun a h => sy_n h)] at hP
  exact hP
/-- what a call gives back -/
theorem x_cont {X' : SX} {Y' : SY} {r : Option Value} {st0 : List Value} {a : Array Value} (hr : va_Run p l e R s m args below meth c H locs cells slots 0 0 (F0 m pc ls st0) rest (Qw G o r X' Y' a) (rg o)) (hI : In G o X Y H0 H locs)
    (kk : ∀ (H1 : Heap) (locs1 : List Loc), In G o X' Y' H0 H1 locs1 → W p l e R s m args below meth c H1 locs1 cells slots Q (F0 m (pc + 3) ls (r.toList ++ rest))) : W p l e R s m args below meth c H locs cells slots Q (F0 m pc ls st0) := by
  intro T hT XX
  obtain ⟨v, st₀, t, T', L, h0, X', hL, e1, e2, ⟨hv, hP, hz, hk⟩, st⟩ := hr T hT XX
  cases hv
  rw [h0] at hz hk
  have hS := hI.2
  obtain ⟨t2, a1, b1⟩ := kk T'.heap (locs ++ L) ⟨by rw [e1]; exact hP, Nat.le_trans hS.1 (by rw [e1]; exact hz), fun q h1 h2 => by rw [e1, hk q (Nat.lt_of_lt_of_le h1 hS.1) h2]; exact hS.2.1 q h1 h2, fun q hq => by
      rcases List.mem_append.mp hq with h | h
      · exact hS.2.2 q h
      · exact hL q h⟩ T' rfl X'
  exact ⟨t2, st t2 a1, b1⟩
/-- what the tables say of a method that is called -/
def MfV (y : MethodName) (bytes : ByteArray) (maxL : Nat) (ret : Option FieldType) (n : Nat) : Prop := Cond.code y bytes maxL ret ∈ gt ∧ Cond.instanceMethod y ∈ gt ∧ Cond.selects y.cls y y ∈ gt ∧ Cond.initialized y.cls ∈ gt ∧ (y.cls ≠ "java/lang/invoke/MethodHandle" ∧ y.cls ≠ "java/lang/invoke/VarHandle" ∧ (parseMethodDescriptor y.desc).map (fun d => d.parameters.length) = some n)
def MfS (y : MethodName) (bytes : ByteArray) (maxL : Nat) (ret : Option FieldType) (n : Nat) : Prop := Cond.code y bytes maxL ret ∈ gt ∧ Cond.static y ∈ gt ∧ Cond.initialized y.cls ∈ gt ∧ (y.cls ≠ "java/lang/invoke/MethodHandle" ∧ y.cls ≠ "java/lang/invoke/VarHandle" ∧ (parseMethodDescriptor y.desc).map (fun d => d.parameters.length) = some n)
theorem x_callV {y : MethodName} {bytes : ByteArray} {maxL f lo n index k ci N : Nat} {T : u_T} {fs : List Value} {ret : Option FieldType} {As st0 : List Value} {r : Option Value} {X' : SX} {Y' : SY} (hE : gE p m c cc nL s args own) (hK : KK G s) (hI : In G o X Y H0 H locs) (hM : Ct l y bytes maxL ret f lo G o (.ref (o + k) :: As) X Y r X' Y') (hf : MfV y bytes maxL ret n) (hlink : Cond.methodLink own index y ∈ gt) (hk : k < 292) (he : shp G o k (X k) (Y k) = .inr (ci, fs)) (hc : vwCl[ci]? = some (y.cls, T, N)) (hn : As.length = n) (hsize : ls.size = nL) (hst : st0 = As.reverse ++ .ref (o + k) :: rest) (hW : (rest.map fun v => v.category).sum ≤ 8) (hR : f + 1 ≤ R.frames ∧ 8 + (maxL + 11) + lo ≤ R.locals) (hcs : cells ≤ R.cells ∧ slots ≤ R.slots) (hdg : decode cc pc = .ok (.invokevirtual index, 3))
    (kk : ∀ (H1 : Heap) (locs1 : List Loc), In G o X' Y' H0 H1 locs1 → W p l e R s m args below meth c H1 locs1 cells slots Q (F0 m (pc + 3) ls (r.toList ++ rest))) : W p l e R s m args below meth c H locs cells slots Q (F0 m pc ls st0) := by
  obtain ⟨h1, h2, h3, h4, h5⟩ := hf
  have hT := hE.2.2.2.2
  refine x_cont (va_runV (C := y.cls) (b := o + k) (n := n) hE hM ⟨callB_of n hT (wsG_good h1) rfl rfl rfl (hT _ h4) (hT _ hlink) h5 hR, hT _ h2, hT _ h3⟩ ⟨Pre.blind, va_recv hK.1 hI.1 hc (wl_at hk he), fun U hU hWm => ⟨rfl, hK.warm hWm, by rw [hU]; exact hI.1⟩⟩ rfl hn hsize hst (lv_room hW) hdg hcs) hI kk
theorem x_callS {y : MethodName} {bytes : ByteArray} {maxL f lo n index : Nat} {ret : Option FieldType} {As st0 : List Value} {r : Option Value} {X' : SX} {Y' : SY} (hE : gE p m c cc nL s args own) (hK : KK G s) (hI : In G o X Y H0 H locs) (hM : Ct l y bytes maxL ret f lo G o As X Y r X' Y') (hf : MfS y bytes maxL ret n) (hlink : Cond.methodLink own index y ∈ gt) (hn : As.length = n) (hsize : ls.size = nL) (hst : st0 = As.reverse ++ rest) (hW : (rest.map fun v => v.category).sum ≤ 8) (hR : f + 1 ≤ R.frames ∧ 8 + (maxL + 11) + lo ≤ R.locals) (hcs : cells ≤ R.cells ∧ slots ≤ R.slots) (hdg : decode cc pc = .ok (.invokestatic index, 3))
    (kk : ∀ (H1 : Heap) (locs1 : List Loc), In G o X' Y' H0 H1 locs1 → W p l e R s m args below meth c H1 locs1 cells slots Q (F0 m (pc + 3) ls (r.toList ++ rest))) : W p l e R s m args below meth c H locs cells slots Q (F0 m pc ls st0) := by
  obtain ⟨h1, h2, h4, h5⟩ := hf
  have hT := hE.2.2.2.2
  refine x_cont (va_runS (n := n) hE hM ⟨callB_of n hT (wsG_good h1) rfl rfl rfl (hT _ h4) (hT _ hlink) h5 hR, hT _ h2⟩ ⟨Pre.blind, fun U hU hWm => ⟨rfl, hK.warm hWm, by rw [hU]; exact hI.1⟩⟩ rfl hn hsize hst (lv_room hW) hdg hcs) hI kk
theorem x_callN {y : MethodName} {bytes : ByteArray} {maxL f lo n index : Nat} {host : String} {ret : Option FieldType} {As st0 : List Value} {r : Option Value} {X' : SX} {Y' : SY} (hE : gE p m c cc nL s args own) (hK : KK G s) (hI : In G o X Y H0 H locs) (hM : Ct l y bytes maxL ret f lo G o As X Y r X' Y') (hf : MfS y bytes maxL ret n) (hlink : va_Nw (.methodLinkNest own index y host) s) (hn : As.length = n) (hsize : ls.size = nL) (hst : st0 = As.reverse ++ rest) (hW : (rest.map fun v => v.category).sum ≤ 8) (hR : f + 1 ≤ R.frames ∧ 8 + (maxL + 11) + lo ≤ R.locals) (hcs : cells ≤ R.cells ∧ slots ≤ R.slots) (hdg : decode cc pc = .ok (.invokestatic index, 3))
    (kk : ∀ (H1 : Heap) (locs1 : List Loc), In G o X' Y' H0 H1 locs1 → W p l e R s m args below meth c H1 locs1 cells slots Q (F0 m (pc + 3) ls (r.toList ++ rest))) : W p l e R s m args below meth c H locs cells slots Q (F0 m pc ls st0) := by
  obtain ⟨h1, h2, h4, h5⟩ := hf
  have hT := hE.2.2.2.2
  refine x_cont (va_runSN (n := n) hE hM ⟨va_cnB n hT (wsG_good h1) rfl rfl rfl hlink (hT _ h4) h5 hR, hT _ h2, trivial⟩ ⟨Pre.blind, fun U hU hWm => ⟨rfl, hK.warm hWm, by rw [hU]; exact hI.1⟩⟩ rfl hn hsize hst (lv_room hW) hdg hcs) hI kk
theorem x_iret {v : Int32} {X' : SX} {Y' : SY} {r : Option Value} (hE : gE p m c cc nL s args own) (hr : meth.sig.returnType = some .int) (hlocks : meth.locks = false) (hI : In G o X Y s.heap H locs) (hv : r = some (.int v)) (hX : X = X') (hY : Y = Y') (hdg : decode cc pc = .ok (.ireturn, 1)) : W p l e R s m args below meth c H locs cells slots (MQ below (Qw G o r X' Y') args s cells slots (rg o)) (F0 m pc ls [.int v]) := by
  subst hX hY hv
  exact W.iret hE.1 hE.2.1 hr (fun t ht _ => ⟨rfl, by rw [ht]; exact hI.1, hI.2.F ht⟩) hI.2.2.2 hdg hlocks
theorem x_zret {v : Int32} {X' : SX} {Y' : SY} {r : Option Value} (hE : gE p m c cc nL s args own) (hr : meth.sig.returnType = some .boolean) (hlocks : meth.locks = false) (hI : In G o X Y s.heap H locs) (h01 : v = 0 ∨ v = 1) (hv : r = some (.int v)) (hX : X = X') (hY : Y = Y') (hdg : decode cc pc = .ok (.ireturn, 1)) : W p l e R s m args below meth c H locs cells slots (MQ below (Qw G o r X' Y') args s cells slots (rg o)) (F0 m pc ls [.int v]) := by
  subst hX hY hv
  exact W.zret hE.1 hE.2.1 hr (by rcases h01 with rfl | rfl <;> rfl) (fun t ht _ => ⟨rfl, by rw [ht]; exact hI.1, hI.2.F ht⟩) hI.2.2.2 hdg hlocks
theorem x_lret {v : Int64} {X' : SX} {Y' : SY} {r : Option Value} (hE : gE p m c cc nL s args own) (hr : meth.sig.returnType = some .long) (hlocks : meth.locks = false) (hI : In G o X Y s.heap H locs) (hv : r = some (.long v)) (hX : X = X') (hY : Y = Y') (hdg : decode cc pc = .ok (.lreturn, 1)) : W p l e R s m args below meth c H locs cells slots (MQ below (Qw G o r X' Y') args s cells slots (rg o)) (F0 m pc ls [.long v]) := by
  subst hX hY hv
  exact W.lret hE.1 hE.2.1 hr (fun t ht _ => ⟨rfl, by rw [ht]; exact hI.1, hI.2.F ht⟩) hI.2.2.2 hdg hlocks
theorem x_vret {X' : SX} {Y' : SY} {r : Option Value} (hE : gE p m c cc nL s args own) (hr : meth.sig.returnType = none) (hlocks : meth.locks = false) (hI : In G o X Y s.heap H locs) (hv : r = none) (hX : X = X') (hY : Y = Y') (hdg : decode cc pc = .ok (.return_, 1)) : W p l e R s m args below meth c H locs cells slots (MQ below (Qw G o r X' Y') args s cells slots (rg o)) (F0 m pc ls []) := by
  subst hX hY hv
  exact W.vret hE.1 hE.2.1 hr (fun t ht _ => ⟨rfl, by rw [ht]; exact hI.1, hI.2.F ht⟩) hI.2.2.2 hdg hlocks
end XR
def bI (P : Prop) [Decidable P] : Int32 := if P then 1 else 0
theorem bI_t {P : Prop} [Decidable P] (h : P) : bI P = 1 := if_pos h
theorem bI_f {P : Prop} [Decidable P] (h : ¬ P) : bI P = 0 := if_neg h
theorem bI_01 {P : Prop} [Decidable P] : bI P = 0 ∨ bI P = 1 := by
  by_cases h : P
  · exact Or.inr (bI_t h)
  · exact Or.inl (bI_f h)
theorem bI_eq0 {P : Prop} [Decidable P] : bI P = 0 ↔ ¬ P := by
  by_cases h : P
  · simp [bI, h]
  · simp [bI, h]
theorem bI_ne0 {P : Prop} [Decidable P] : ¬ bI P = 0 ↔ P := by
  by_cases h : P
  · simp [bI, h]
  · simp [bI, h]
end
section
/-! ===== 04: what the tables say of each method; the shapes of the cells; calls by the kind of their answer ===== -/
abbrev Wi (v lo hi : Int32) : Prop := lo ≤ v ∧ v ≤ hi
theorem sx_o {X : SX} {k i k' i' : Nat} {v : Int32} (h : ¬ (k' = k ∧ i' = i)) : sx X k i v k' i' = X k' i' := by
  by_cases e : k' = k
  · subst e
    rw [sx_k]
    exact if_neg (fun q => h ⟨rfl, q⟩)
  · rw [sx_n e]
theorem sy_o {X : SY} {k i k' i' : Nat} {v : Int64} (h : ¬ (k' = k ∧ i' = i)) : sy X k i v k' i' = X k' i' := by
  by_cases e : k' = k
  · subst e
    rw [sy_k]
    exact if_neg (fun q => h ⟨rfl, q⟩)
  · rw [sy_n e]
/-- the first four places of row k0 laid over those of row k -/
def cx (X : SX) (k0 k : Nat) : SX := fun a => if a = k then va_cpy (X k0) (X k) 0 0 4 else X a
theorem cx_o {X : SX} {k0 k k' i' : Nat} (h : k' ≠ k) : cx X k0 k k' i' = X k' i' := by
  unfold cx
  rw [if_neg h]
section XR2
variable {p : Program} {l : Launch} {e : Env} {R : Room} {s : State} {m : MethodId} {args : Array Value} {below : List Frame} {meth : Method} {c : Code} {H H0 : Heap} {locs : List Loc} {cells slots : Nat} {Q : State → Prop}
variable {cc : ByteArray} {pc nL : Nat} {ls : Array Slot} {rest : List Value} {own : String} {G : GG} {o : Nat} {X : SX} {Y : SY}
variable {y : MethodName} {bytes : ByteArray} {maxL f lo n index k ci N : Nat} {T : u_T} {fs : List Value} {ret : Option FieldType} {As st0 : List Value} {X' : SX} {Y' : SY}
theorem x_callVi {v : Int32} (hE : gE p m c cc nL s args own) (hK : KK G s) (hI : In G o X Y H0 H locs) (hM : Ct l y bytes maxL ret f lo G o (.ref (o + k) :: As) X Y (some (.int v)) X' Y') (hf : MfV y bytes maxL ret n) (hlink : Cond.methodLink own index y ∈ gt) (hk : k < 292) (he : shp G o k (X k) (Y k) = .inr (ci, fs)) (hc : vwCl[ci]? = some (y.cls, T, N)) (hn : As.length = n) (hsize : ls.size = nL) (hst : st0 = As.reverse ++ .ref (o + k) :: rest) (hW : (rest.map fun v => v.category).sum ≤ 8) (hR : f + 1 ≤ R.frames ∧ 8 + (maxL + 11) + lo ≤ R.locals) (hcs : cells ≤ R.cells ∧ slots ≤ R.slots) (hdg : decode cc pc = .ok (.invokevirtual index, 3))
    (kk : ∀ (H1 : Heap) (locs1 : List Loc), In G o X' Y' H0 H1 locs1 → W p l e R s m args below meth c H1 locs1 cells slots Q (F0 m (pc + 3) ls (.int v :: rest))) : W p l e R s m args below meth c H locs cells slots Q (F0 m pc ls st0) :=
  x_callV hE hK hI hM hf hlink hk he hc hn hsize hst hW hR hcs hdg kk
theorem x_callSi {v : Int32} (hE : gE p m c cc nL s args own) (hK : KK G s) (hI : In G o X Y H0 H locs) (hM : Ct l y bytes maxL ret f lo G o As X Y (some (.int v)) X' Y') (hf : MfS y bytes maxL ret n) (hlink : Cond.methodLink own index y ∈ gt) (hn : As.length = n) (hsize : ls.size = nL) (hst : st0 = As.reverse ++ rest) (hW : (rest.map fun v => v.category).sum ≤ 8) (hR : f + 1 ≤ R.frames ∧ 8 + (maxL + 11) + lo ≤ R.locals) (hcs : cells ≤ R.cells ∧ slots ≤ R.slots) (hdg : decode cc pc = .ok (.invokestatic index, 3))
    (kk : ∀ (H1 : Heap) (locs1 : List Loc), In G o X' Y' H0 H1 locs1 → W p l e R s m args below meth c H1 locs1 cells slots Q (F0 m (pc + 3) ls (.int v :: rest))) : W p l e R s m args below meth c H locs cells slots Q (F0 m pc ls st0) :=
  x_callS hE hK hI hM hf hlink hn hsize hst hW hR hcs hdg kk
theorem x_callNi {v : Int32} {host : String} (hE : gE p m c cc nL s args own) (hK : KK G s) (hI : In G o X Y H0 H locs) (hM : Ct l y bytes maxL ret f lo G o As X Y (some (.int v)) X' Y') (hf : MfS y bytes maxL ret n) (hlink : va_Nw (.methodLinkNest own index y host) s) (hn : As.length = n) (hsize : ls.size = nL) (hst : st0 = As.reverse ++ rest) (hW : (rest.map fun v => v.category).sum ≤ 8) (hR : f + 1 ≤ R.frames ∧ 8 + (maxL + 11) + lo ≤ R.locals) (hcs : cells ≤ R.cells ∧ slots ≤ R.slots) (hdg : decode cc pc = .ok (.invokestatic index, 3))
    (kk : ∀ (H1 : Heap) (locs1 : List Loc), In G o X' Y' H0 H1 locs1 → W p l e R s m args below meth c H1 locs1 cells slots Q (F0 m (pc + 3) ls (.int v :: rest))) : W p l e R s m args below meth c H locs cells slots Q (F0 m pc ls st0) :=
  x_callN hE hK hI hM hf hlink hn hsize hst hW hR hcs hdg kk
theorem x_callVl {v : Int64} (hE : gE p m c cc nL s args own) (hK : KK G s) (hI : In G o X Y H0 H locs) (hM : Ct l y bytes maxL ret f lo G o (.ref (o + k) :: As) X Y (some (.long v)) X' Y') (hf : MfV y bytes maxL ret n) (hlink : Cond.methodLink own index y ∈ gt) (hk : k < 292) (he : shp G o k (X k) (Y k) = .inr (ci, fs)) (hc : vwCl[ci]? = some (y.cls, T, N)) (hn : As.length = n) (hsize : ls.size = nL) (hst : st0 = As.reverse ++ .ref (o + k) :: rest) (hW : (rest.map fun v => v.category).sum ≤ 8) (hR : f + 1 ≤ R.frames ∧ 8 + (maxL + 11) + lo ≤ R.locals) (hcs : cells ≤ R.cells ∧ slots ≤ R.slots) (hdg : decode cc pc = .ok (.invokevirtual index, 3))
    (kk : ∀ (H1 : Heap) (locs1 : List Loc), In G o X' Y' H0 H1 locs1 → W p l e R s m args below meth c H1 locs1 cells slots Q (F0 m (pc + 3) ls (.long v :: rest))) : W p l e R s m args below meth c H locs cells slots Q (F0 m pc ls st0) :=
  x_callV hE hK hI hM hf hlink hk he hc hn hsize hst hW hR hcs hdg kk
theorem x_callSl {v : Int64} (hE : gE p m c cc nL s args own) (hK : KK G s) (hI : In G o X Y H0 H locs) (hM : Ct l y bytes maxL ret f lo G o As X Y (some (.long v)) X' Y') (hf : MfS y bytes maxL ret n) (hlink : Cond.methodLink own index y ∈ gt) (hn : As.length = n) (hsize : ls.size = nL) (hst : st0 = As.reverse ++ rest) (hW : (rest.map fun v => v.category).sum ≤ 8) (hR : f + 1 ≤ R.frames ∧ 8 + (maxL + 11) + lo ≤ R.locals) (hcs : cells ≤ R.cells ∧ slots ≤ R.slots) (hdg : decode cc pc = .ok (.invokestatic index, 3))
    (kk : ∀ (H1 : Heap) (locs1 : List Loc), In G o X' Y' H0 H1 locs1 → W p l e R s m args below meth c H1 locs1 cells slots Q (F0 m (pc + 3) ls (.long v :: rest))) : W p l e R s m args below meth c H locs cells slots Q (F0 m pc ls st0) :=
  x_callS hE hK hI hM hf hlink hn hsize hst hW hR hcs hdg kk
theorem x_callNl {v : Int64} {host : String} (hE : gE p m c cc nL s args own) (hK : KK G s) (hI : In G o X Y H0 H locs) (hM : Ct l y bytes maxL ret f lo G o As X Y (some (.long v)) X' Y') (hf : MfS y bytes maxL ret n) (hlink : va_Nw (.methodLinkNest own index y host) s) (hn : As.length = n) (hsize : ls.size = nL) (hst : st0 = As.reverse ++ rest) (hW : (rest.map fun v => v.category).sum ≤ 8) (hR : f + 1 ≤ R.frames ∧ 8 + (maxL + 11) + lo ≤ R.locals) (hcs : cells ≤ R.cells ∧ slots ≤ R.slots) (hdg : decode cc pc = .ok (.invokestatic index, 3))
    (kk : ∀ (H1 : Heap) (locs1 : List Loc), In G o X' Y' H0 H1 locs1 → W p l e R s m args below meth c H1 locs1 cells slots Q (F0 m (pc + 3) ls (.long v :: rest))) : W p l e R s m args below meth c H locs cells slots Q (F0 m pc ls st0) :=
  x_callN hE hK hI hM hf hlink hn hsize hst hW hR hcs hdg kk
theorem x_callVv  (hE : gE p m c cc nL s args own) (hK : KK G s) (hI : In G o X Y H0 H locs) (hM : Ct l y bytes maxL ret f lo G o (.ref (o + k) :: As) X Y (none) X' Y') (hf : MfV y bytes maxL ret n) (hlink : Cond.methodLink own index y ∈ gt) (hk : k < 292) (he : shp G o k (X k) (Y k) = .inr (ci, fs)) (hc : vwCl[ci]? = some (y.cls, T, N)) (hn : As.length = n) (hsize : ls.size = nL) (hst : st0 = As.reverse ++ .ref (o + k) :: rest) (hW : (rest.map fun v => v.category).sum ≤ 8) (hR : f + 1 ≤ R.frames ∧ 8 + (maxL + 11) + lo ≤ R.locals) (hcs : cells ≤ R.cells ∧ slots ≤ R.slots) (hdg : decode cc pc = .ok (.invokevirtual index, 3))
    (kk : ∀ (H1 : Heap) (locs1 : List Loc), In G o X' Y' H0 H1 locs1 → W p l e R s m args below meth c H1 locs1 cells slots Q (F0 m (pc + 3) ls (rest))) : W p l e R s m args below meth c H locs cells slots Q (F0 m pc ls st0) :=
  x_callV hE hK hI hM hf hlink hk he hc hn hsize hst hW hR hcs hdg kk
theorem x_callSv  (hE : gE p m c cc nL s args own) (hK : KK G s) (hI : In G o X Y H0 H locs) (hM : Ct l y bytes maxL ret f lo G o As X Y (none) X' Y') (hf : MfS y bytes maxL ret n) (hlink : Cond.methodLink own index y ∈ gt) (hn : As.length = n) (hsize : ls.size = nL) (hst : st0 = As.reverse ++ rest) (hW : (rest.map fun v => v.category).sum ≤ 8) (hR : f + 1 ≤ R.frames ∧ 8 + (maxL + 11) + lo ≤ R.locals) (hcs : cells ≤ R.cells ∧ slots ≤ R.slots) (hdg : decode cc pc = .ok (.invokestatic index, 3))
    (kk : ∀ (H1 : Heap) (locs1 : List Loc), In G o X' Y' H0 H1 locs1 → W p l e R s m args below meth c H1 locs1 cells slots Q (F0 m (pc + 3) ls (rest))) : W p l e R s m args below meth c H locs cells slots Q (F0 m pc ls st0) :=
  x_callS hE hK hI hM hf hlink hn hsize hst hW hR hcs hdg kk
theorem x_callNv  {host : String} (hE : gE p m c cc nL s args own) (hK : KK G s) (hI : In G o X Y H0 H locs) (hM : Ct l y bytes maxL ret f lo G o As X Y (none) X' Y') (hf : MfS y bytes maxL ret n) (hlink : va_Nw (.methodLinkNest own index y host) s) (hn : As.length = n) (hsize : ls.size = nL) (hst : st0 = As.reverse ++ rest) (hW : (rest.map fun v => v.category).sum ≤ 8) (hR : f + 1 ≤ R.frames ∧ 8 + (maxL + 11) + lo ≤ R.locals) (hcs : cells ≤ R.cells ∧ slots ≤ R.slots) (hdg : decode cc pc = .ok (.invokestatic index, 3))
    (kk : ∀ (H1 : Heap) (locs1 : List Loc), In G o X' Y' H0 H1 locs1 → W p l e R s m args below meth c H1 locs1 cells slots Q (F0 m (pc + 3) ls (rest))) : W p l e R s m args below meth c H locs cells slots Q (F0 m pc ls st0) :=
  x_callN hE hK hI hM hf hlink hn hsize hst hW hR hcs hdg kk
theorem x_copy {k0 : Nat} (hE : gE p m c cc nL s args own) (hK : KK G s) (hI : In G o X Y H0 H locs) (hk0 : k0 < 292) (hk : k < 292) (he0 : ∀ f g, shp G o k0 f g = .inl (G.2 0, 4, .inl f)) (he : ∀ f g, shp G o k f g = .inl (G.2 0, 4, .inl f)) (hml : c.maxLocals = ls.size) (hlink : Cond.methodLink own index arraycopyName ∈ gt) (hframes : 1 ≤ R.frames)
    (hlocals : (rest.map fun v => v.category).sum + (nativeFrameWords "java/lang/System" "arraycopy" 5 + 11) ≤ R.locals) (hdg : decode cc pc = .ok (.invokestatic index, 3))
    (kk : ∀ (H1 : Heap) (locs1 : List Loc), In G o (cx X k0 k) Y H0 H1 locs1 → W p l e R s m args below meth c H1 locs1 cells slots Q (F0 m (pc + 3) ls rest)) : W p l e R s m args below meth c H locs cells slots Q (F0 m pc ls (.int 4 :: .int 0 :: .ref (o + k) :: .int 0 :: .ref (o + k0) :: rest)) := by
  have hT := hE.2.2.2.2
  refine va_copyi (D := G.1) (ty := .int) hE.1 hE.2.1 hml hE.2.2.2.1 (hT _ hlink) (hT _ mw_453) (hT _ mw_452) (hT _ mw_9) hK.1 hI.1 wl_D hI.2 k0 k 0 0 (wl_at hk0 (he0 _ _)) (wl_at hk (he _ _)) rfl rfl rfl (by decide) (by decide) (by decide) (by decide) (by decide) (fun _ _ => rfl) hframes hlocals hdg (fun H1 locs1 hP hD hS => kk H1 locs1 ⟨?_, hS⟩)
  rw [wl_set (X2 := cx X k0 k) (Y2 := Y) hk (by rw [show cx X k0 k k = va_cpy (X k0) (X k) 0 0 4 from if_pos rfl, he]; rfl) (fun a h => if_neg h) (fun _ _ => rfl)] at hP
  exact hP
end XR2
theorem mf_X5_setBreakage : MfV yX5_setBreakage cX5_setBreakage 7 (some .int) 4 := ⟨mw_188, mw_186, mw_187, mw_1, ⟨by decide +kernel, by decide +kernel, by decide +kernel⟩⟩
theorem mf_X5_share : MfV yX5_share cX5_share 3 (some .int) 2 := ⟨mw_206, mw_204, mw_205, mw_1, ⟨by decide +kernel, by decide +kernel, by decide +kernel⟩⟩
theorem mf_X5_setReturn : MfV yX5_setReturn cX5_setReturn 3 (some .int) 2 := ⟨mw_210, mw_208, mw_209, mw_1, ⟨by decide +kernel, by decide +kernel, by decide +kernel⟩⟩
theorem mf_X5_setWork : MfV yX5_setWork cX5_setWork 3 (some .int) 2 := ⟨mw_217, mw_215, mw_216, mw_1, ⟨by decide +kernel, by decide +kernel, by decide +kernel⟩⟩
theorem mf_X5_setFeed : MfV yX5_setFeed cX5_setFeed 3 (some .int) 2 := ⟨mw_221, mw_219, mw_220, mw_1, ⟨by decide +kernel, by decide +kernel, by decide +kernel⟩⟩
theorem mf_X5_load : MfV yX5_load cX5_load 3 (some .long) 2 := ⟨mw_225, mw_223, mw_224, mw_1, ⟨by decide +kernel, by decide +kernel, by decide +kernel⟩⟩
theorem mf_X5_product : MfV yX5_product cX5_product 8 (some .long) 2 := ⟨mw_253, mw_251, mw_252, mw_1, ⟨by decide +kernel, by decide +kernel, by decide +kernel⟩⟩
theorem mf_X5_circulatingLoad : MfV yX5_circulatingLoad cX5_circulatingLoad 4 (some .long) 1 := ⟨mw_259, mw_257, mw_258, mw_1, ⟨by decide +kernel, by decide +kernel, by decide +kernel⟩⟩
theorem mf_X5_power : MfV yX5_power cX5_power 2 (some .long) 1 := ⟨mw_271, mw_269, mw_270, mw_1, ⟨by decide +kernel, by decide +kernel, by decide +kernel⟩⟩
theorem mf_X5_cutPower : MfV yX5_cutPower cX5_cutPower 3 (some .long) 2 := ⟨mw_279, mw_277, mw_278, mw_1, ⟨by decide +kernel, by decide +kernel, by decide +kernel⟩⟩
theorem mf_X5_finestCut : MfV yX5_finestCut cX5_finestCut 3 (some .int) 1 := ⟨mw_288, mw_286, mw_287, mw_1, ⟨by decide +kernel, by decide +kernel, by decide +kernel⟩⟩
theorem mf_X5_addLot : MfV yX5_addLot cX5_addLot 7 (some .int) 4 := ⟨mw_293, mw_291, mw_292, mw_1, ⟨by decide +kernel, by decide +kernel, by decide +kernel⟩⟩
theorem mf_X5_planLot : MfV yX5_planLot cX5_planLot 8 (some .int) 5 := ⟨mw_337, mw_335, mw_336, mw_1, ⟨by decide +kernel, by decide +kernel, by decide +kernel⟩⟩
theorem mf_X5_advance : MfV yX5_advance cX5_advance 2 (some .int) 1 := ⟨mw_345, mw_343, mw_344, mw_1, ⟨by decide +kernel, by decide +kernel, by decide +kernel⟩⟩
theorem mf_X5_setRate : MfV yX5_setRate cX5_setRate 3 (some .int) 1 := ⟨mw_383, mw_381, mw_382, mw_1, ⟨by decide +kernel, by decide +kernel, by decide +kernel⟩⟩
theorem mf_X5_setRule : MfV yX5_setRule cX5_setRule 3 (some .int) 1 := ⟨mw_387, mw_385, mw_386, mw_1, ⟨by decide +kernel, by decide +kernel, by decide +kernel⟩⟩
theorem mf_X5_bin : MfV yX5_bin cX5_bin 3 (some .int) 1 := ⟨mw_391, mw_389, mw_390, mw_1, ⟨by decide +kernel, by decide +kernel, by decide +kernel⟩⟩
theorem mf_X5_mill : MfV yX5_mill cX5_mill 3 (some .int) 1 := ⟨mw_407, mw_405, mw_406, mw_1, ⟨by decide +kernel, by decide +kernel, by decide +kernel⟩⟩
theorem mf_X5_state : MfV yX5_state cX5_state 2 (some .int) 1 := ⟨mw_412, mw_410, mw_411, mw_1, ⟨by decide +kernel, by decide +kernel, by decide +kernel⟩⟩
theorem mf_X5_mass : MfV yX5_mass cX5_mass 3 (some .int) 2 := ⟨mw_420, mw_418, mw_419, mw_1, ⟨by decide +kernel, by decide +kernel, by decide +kernel⟩⟩
theorem mf_X5_passes : MfV yX5_passes cX5_passes 2 (some .int) 1 := ⟨mw_427, mw_425, mw_426, mw_1, ⟨by decide +kernel, by decide +kernel, by decide +kernel⟩⟩
theorem mf_X5_produced : MfV yX5_produced cX5_produced 2 (some .int) 1 := ⟨mw_431, mw_429, mw_430, mw_1, ⟨by decide +kernel, by decide +kernel, by decide +kernel⟩⟩
theorem mf_X5_total : MfV yX5_total cX5_total 3 (some .int) 1 := ⟨mw_435, mw_433, mw_434, mw_1, ⟨by decide +kernel, by decide +kernel, by decide +kernel⟩⟩
theorem mf_X5_save : MfV yX5_save cX5_save 2 (some .int) 1 := ⟨mw_439, mw_437, mw_438, mw_1, ⟨by decide +kernel, by decide +kernel, by decide +kernel⟩⟩
theorem mf_X5_restore : MfV yX5_restore cX5_restore 2 (some .int) 1 := ⟨mw_467, mw_465, mw_466, mw_1, ⟨by decide +kernel, by decide +kernel, by decide +kernel⟩⟩
theorem mf_X5_isWithin : MfS yX5_isWithin cX5_isWithin 3 (some .boolean) 3 := ⟨mw_194, mw_193, mw_1, ⟨by decide +kernel, by decide +kernel, by decide +kernel⟩⟩
theorem mf_X5_isSize : MfS yX5_isSize cX5_isSize 1 (some .boolean) 1 := ⟨mw_191, mw_190, mw_1, ⟨by decide +kernel, by decide +kernel, by decide +kernel⟩⟩
theorem mf_X5_isZeroOrOne : MfS yX5_isZeroOrOne cX5_isZeroOrOne 1 (some .boolean) 1 := ⟨mw_229, mw_228, mw_1, ⟨by decide +kernel, by decide +kernel, by decide +kernel⟩⟩
theorem mf_X5_isSlot : MfS yX5_isSlot cX5_isSlot 1 (some .boolean) 1 := ⟨mw_442, mw_441, mw_1, ⟨by decide +kernel, by decide +kernel, by decide +kernel⟩⟩
theorem mf_X5_isShareTo : MfS yX5_isShareTo cX5_isShareTo 2 (some .boolean) 2 := ⟨mw_197, mw_196, mw_1, ⟨by decide +kernel, by decide +kernel, by decide +kernel⟩⟩
theorem mf_X5_isLotMass : MfS yX5_isLotMass cX5_isLotMass 1 (some .boolean) 1 := ⟨mw_299, mw_298, mw_1, ⟨by decide +kernel, by decide +kernel, by decide +kernel⟩⟩
theorem mf_X5_areLotMasses : MfS yX5_areLotMasses cX5_areLotMasses 4 (some .boolean) 4 := ⟨mw_296, mw_295, mw_1, ⟨by decide +kernel, by decide +kernel, by decide +kernel⟩⟩
theorem mf_X5_exchange : MfS yX5_exchange cX5_exchange 5 (some .int) 4 := ⟨mw_213, mw_212, mw_1, ⟨by decide +kernel, by decide +kernel, by decide +kernel⟩⟩
theorem mf_X5_sizeOrAll : MfS yX5_sizeOrAll cX5_sizeOrAll 2 (some .int) 2 := ⟨mw_423, mw_422, mw_1, ⟨by decide +kernel, by decide +kernel, by decide +kernel⟩⟩
theorem mf_X5_sum : MfS yX5_sum cX5_sum 6 (some .int) 1 := ⟨mw_262, mw_261, mw_1, ⟨by decide +kernel, by decide +kernel, by decide +kernel⟩⟩
theorem mf_X5_partOf : MfS yX5_partOf cX5_partOf 7 (some .long) 3 := ⟨mw_246, mw_245, mw_1, ⟨by decide +kernel, by decide +kernel, by decide +kernel⟩⟩
theorem mf_X5_commonDivisor : MfS yX5_commonDivisor cX5_commonDivisor 11 (some .long) 2 := ⟨mw_249, mw_248, mw_1, ⟨by decide +kernel, by decide +kernel, by decide +kernel⟩⟩
theorem mf_X6_in : MfS yX6_in cX6_in 3 (some .boolean) 3 := ⟨mw_505, mw_504, mw_7, ⟨by decide +kernel, by decide +kernel, by decide +kernel⟩⟩
theorem mf_X6_isSize : MfS yX6_isSize cX6_isSize 1 (some .boolean) 1 := ⟨mw_502, mw_501, mw_7, ⟨by decide +kernel, by decide +kernel, by decide +kernel⟩⟩
theorem mf_X6_shareOf : MfV yX6_shareOf cX6_shareOf 3 (some .int) 2 := ⟨mw_513, mw_512, ms_7, mw_7, ⟨by decide +kernel, by decide +kernel, by decide +kernel⟩⟩
theorem mf_X6_setBreakage : MfV yX6_setBreakage cX6_setBreakage 7 (some .int) 4 := ⟨mw_499, mw_497, mw_498, mw_7, ⟨by decide +kernel, by decide +kernel, by decide +kernel⟩⟩
theorem mf_X6_share : MfV yX6_share cX6_share 3 (some .int) 2 := ⟨mw_509, mw_507, mw_508, mw_7, ⟨by decide +kernel, by decide +kernel, by decide +kernel⟩⟩
theorem mf_X6_set : MfV yX6_set cX6_set 4 (some .int) 2 := ⟨mw_521, mw_520, ms_8, mw_7, ⟨by decide +kernel, by decide +kernel, by decide +kernel⟩⟩
theorem mf_X6_setReturn : MfV yX6_setReturn cX6_setReturn 3 (some .int) 2 := ⟨mw_517, mw_515, mw_516, mw_7, ⟨by decide +kernel, by decide +kernel, by decide +kernel⟩⟩
theorem mf_X6_setWork : MfV yX6_setWork cX6_setWork 3 (some .int) 2 := ⟨mw_525, mw_523, mw_524, mw_7, ⟨by decide +kernel, by decide +kernel, by decide +kernel⟩⟩
theorem mf_X6_setFeed : MfV yX6_setFeed cX6_setFeed 3 (some .int) 2 := ⟨mw_529, mw_527, mw_528, mw_7, ⟨by decide +kernel, by decide +kernel, by decide +kernel⟩⟩
theorem mf_X6_asSet : MfV yX6_asSet cX6_asSet 2 none 0 := ⟨mw_544, mw_543, ms_10, mw_7, ⟨by decide +kernel, by decide +kernel, by decide +kernel⟩⟩
theorem mf_X6_asCut : MfV yX6_asCut cX6_asCut 3 none 1 := ⟨mw_578, mw_577, ms_13, mw_7, ⟨by decide +kernel, by decide +kernel, by decide +kernel⟩⟩
theorem mf_X6_layLoads : MfV yX6_layLoads cX6_layLoads 8 (some .boolean) 0 := ⟨mw_548, mw_547, ms_11, mw_7, ⟨by decide +kernel, by decide +kernel, by decide +kernel⟩⟩
theorem mf_X6_part : MfS yX6_part cX6_part 11 (some .long) 3 := ⟨mw_552, mw_551, mw_7, ⟨by decide +kernel, by decide +kernel, by decide +kernel⟩⟩
theorem mf_X6_isPart : MfS yX6_isPart cX6_isPart 1 (some .boolean) 1 := ⟨mw_540, mw_539, mw_7, ⟨by decide +kernel, by decide +kernel, by decide +kernel⟩⟩
theorem mf_X6_wrongSteady : MfV yX6_wrongSteady cX6_wrongSteady 3 (some .int) 2 := ⟨mw_537, mw_536, ms_9, mw_7, ⟨by decide +kernel, by decide +kernel, by decide +kernel⟩⟩
theorem mf_X6_load : MfV yX6_load cX6_load 4 (some .long) 2 := ⟨mw_533, mw_531, mw_532, mw_7, ⟨by decide +kernel, by decide +kernel, by decide +kernel⟩⟩
theorem mf_X6_product : MfV yX6_product cX6_product 7 (some .long) 2 := ⟨mw_556, mw_554, mw_555, mw_7, ⟨by decide +kernel, by decide +kernel, by decide +kernel⟩⟩
theorem mf_X6_circulatingLoad : MfV yX6_circulatingLoad cX6_circulatingLoad 8 (some .long) 1 := ⟨mw_560, mw_558, mw_559, mw_7, ⟨by decide +kernel, by decide +kernel, by decide +kernel⟩⟩
theorem mf_X6_powerOf : MfV yX6_powerOf cX6_powerOf 4 (some .long) 0 := ⟨mw_569, mw_568, ms_12, mw_7, ⟨by decide +kernel, by decide +kernel, by decide +kernel⟩⟩
theorem mf_X6_power : MfV yX6_power cX6_power 3 (some .long) 1 := ⟨mw_565, mw_563, mw_564, mw_7, ⟨by decide +kernel, by decide +kernel, by decide +kernel⟩⟩
theorem mf_X6_cutPower : MfV yX6_cutPower cX6_cutPower 3 (some .long) 2 := ⟨mw_573, mw_571, mw_572, mw_7, ⟨by decide +kernel, by decide +kernel, by decide +kernel⟩⟩
theorem mf_X6_finestCut : MfV yX6_finestCut cX6_finestCut 3 (some .int) 1 := ⟨mw_583, mw_581, mw_582, mw_7, ⟨by decide +kernel, by decide +kernel, by decide +kernel⟩⟩
theorem mf_X6_lot : MfS yX6_lot cX6_lot 2 (some .int) 2 := ⟨mw_601, mw_600, mw_7, ⟨by decide +kernel, by decide +kernel, by decide +kernel⟩⟩
theorem mf_X6_of : MfV yX6_of cX6_of 3 (some .int) 2 := ⟨mw_617, mw_616, ms_18, mw_7, ⟨by decide +kernel, by decide +kernel, by decide +kernel⟩⟩
theorem mf_X6_weight : MfV yX6_weight cX6_weight 2 (some .int) 1 := ⟨mw_633, mw_632, ms_22, mw_7, ⟨by decide +kernel, by decide +kernel, by decide +kernel⟩⟩
theorem mf_X6_ahead : MfV yX6_ahead cX6_ahead 4 (some .int) 2 := ⟨mw_629, mw_628, ms_21, mw_7, ⟨by decide +kernel, by decide +kernel, by decide +kernel⟩⟩
theorem mf_X6_isAhead : MfV yX6_isAhead cX6_isAhead 4 (some .boolean) 2 := ⟨mw_625, mw_624, ms_20, mw_7, ⟨by decide +kernel, by decide +kernel, by decide +kernel⟩⟩
theorem mf_X6_place : MfV yX6_place cX6_place 4 (some .int) 1 := ⟨mw_621, mw_620, ms_19, mw_7, ⟨by decide +kernel, by decide +kernel, by decide +kernel⟩⟩
theorem mf_X6_inBin : MfV yX6_inBin cX6_inBin 3 (some .int) 1 := ⟨mw_613, mw_612, ms_17, mw_7, ⟨by decide +kernel, by decide +kernel, by decide +kernel⟩⟩
theorem mf_X6_comes : MfV yX6_comes cX6_comes 2 none 1 := ⟨mw_605, mw_604, ms_15, mw_7, ⟨by decide +kernel, by decide +kernel, by decide +kernel⟩⟩
theorem mf_X6_start : MfV yX6_start cX6_start 2 none 0 := ⟨mw_609, mw_608, ms_16, mw_7, ⟨by decide +kernel, by decide +kernel, by decide +kernel⟩⟩
theorem mf_X6_finish : MfV yX6_finish cX6_finish 7 none 0 := ⟨mw_649, mw_648, ms_24, mw_7, ⟨by decide +kernel, by decide +kernel, by decide +kernel⟩⟩
theorem mf_X6_minute : MfV yX6_minute cX6_minute 2 none 0 := ⟨mw_645, mw_644, ms_23, mw_7, ⟨by decide +kernel, by decide +kernel, by decide +kernel⟩⟩
theorem mf_X6_isMass : MfS yX6_isMass cX6_isMass 1 (some .boolean) 1 := ⟨mw_594, mw_593, mw_7, ⟨by decide +kernel, by decide +kernel, by decide +kernel⟩⟩
theorem mf_X6_areMasses : MfS yX6_areMasses cX6_areMasses 4 (some .boolean) 4 := ⟨mw_591, mw_590, mw_7, ⟨by decide +kernel, by decide +kernel, by decide +kernel⟩⟩
theorem mf_X6_make : MfV yX6_make cX6_make 6 (some .int) 4 := ⟨mw_598, mw_597, ms_14, mw_7, ⟨by decide +kernel, by decide +kernel, by decide +kernel⟩⟩
theorem mf_X6_addLot : MfV yX6_addLot cX6_addLot 6 (some .int) 4 := ⟨mw_588, mw_586, mw_587, mw_7, ⟨by decide +kernel, by decide +kernel, by decide +kernel⟩⟩
theorem mf_X6_planLot : MfV yX6_planLot cX6_planLot 7 (some .int) 5 := ⟨mw_637, mw_635, mw_636, mw_7, ⟨by decide +kernel, by decide +kernel, by decide +kernel⟩⟩
theorem mf_X6_advance : MfV yX6_advance cX6_advance 3 (some .int) 1 := ⟨mw_641, mw_639, mw_640, mw_7, ⟨by decide +kernel, by decide +kernel, by decide +kernel⟩⟩
theorem mf_X6_setRate : MfV yX6_setRate cX6_setRate 2 (some .int) 1 := ⟨mw_653, mw_651, mw_652, mw_7, ⟨by decide +kernel, by decide +kernel, by decide +kernel⟩⟩
theorem mf_X6_setRule : MfV yX6_setRule cX6_setRule 2 (some .int) 1 := ⟨mw_657, mw_655, mw_656, mw_7, ⟨by decide +kernel, by decide +kernel, by decide +kernel⟩⟩
theorem mf_X6_bin : MfV yX6_bin cX6_bin 4 (some .int) 1 := ⟨mw_661, mw_659, mw_660, mw_7, ⟨by decide +kernel, by decide +kernel, by decide +kernel⟩⟩
theorem mf_X6_mill : MfV yX6_mill cX6_mill 2 (some .int) 1 := ⟨mw_665, mw_663, mw_664, mw_7, ⟨by decide +kernel, by decide +kernel, by decide +kernel⟩⟩
theorem mf_X6_isLot : MfV yX6_isLot cX6_isLot 2 (some .boolean) 1 := ⟨mw_673, mw_672, ms_25, mw_7, ⟨by decide +kernel, by decide +kernel, by decide +kernel⟩⟩
theorem mf_X6_state : MfV yX6_state cX6_state 2 (some .int) 1 := ⟨mw_669, mw_667, mw_668, mw_7, ⟨by decide +kernel, by decide +kernel, by decide +kernel⟩⟩
theorem mf_X6_mass : MfV yX6_mass cX6_mass 3 (some .int) 2 := ⟨mw_677, mw_675, mw_676, mw_7, ⟨by decide +kernel, by decide +kernel, by decide +kernel⟩⟩
theorem mf_X6_passes : MfV yX6_passes cX6_passes 2 (some .int) 1 := ⟨mw_681, mw_679, mw_680, mw_7, ⟨by decide +kernel, by decide +kernel, by decide +kernel⟩⟩
theorem mf_X6_produced : MfV yX6_produced cX6_produced 2 (some .int) 1 := ⟨mw_685, mw_683, mw_684, mw_7, ⟨by decide +kernel, by decide +kernel, by decide +kernel⟩⟩
theorem mf_X6_total : MfV yX6_total cX6_total 2 (some .int) 1 := ⟨mw_689, mw_687, mw_688, mw_7, ⟨by decide +kernel, by decide +kernel, by decide +kernel⟩⟩
theorem mf_X6_save : MfV yX6_save cX6_save 3 (some .int) 1 := ⟨mw_693, mw_691, mw_692, mw_7, ⟨by decide +kernel, by decide +kernel, by decide +kernel⟩⟩
theorem mf_X6_restore : MfV yX6_restore cX6_restore 3 (some .int) 1 := ⟨mw_697, mw_695, mw_696, mw_7, ⟨by decide +kernel, by decide +kernel, by decide +kernel⟩⟩
theorem mf_X0_copyFrom : MfV yX0_copyFrom cX0_copyFrom 2 none 1 := ⟨mw_461, mw_459, mw_460, mw_5, ⟨by decide +kernel, by decide +kernel, by decide +kernel⟩⟩
theorem mf_X0_standsBefore : MfV yX0_standsBefore cX0_standsBefore 4 (some .boolean) 2 := ⟨mw_327, mw_325, mw_326, mw_5, ⟨by decide +kernel, by decide +kernel, by decide +kernel⟩⟩
theorem mf_X0_coarserBy : MfV yX0_coarserBy cX0_coarserBy 3 (some .int) 1 := ⟨mw_332, mw_331, ms_2, mw_5, ⟨by decide +kernel, by decide +kernel, by decide +kernel⟩⟩
theorem mf_X0_energyToGrind : MfV yX0_energyToGrind cX0_energyToGrind 4 (some .int) 1 := ⟨mw_365, mw_363, mw_364, mw_5, ⟨by decide +kernel, by decide +kernel, by decide +kernel⟩⟩
theorem mf_X0_breakOre : MfV yX0_breakOre cX0_breakOre 6 none 1 := ⟨mw_369, mw_367, mw_368, mw_5, ⟨by decide +kernel, by decide +kernel, by decide +kernel⟩⟩
theorem mf_X0_classify : MfV yX0_classify cX0_classify 5 none 2 := ⟨mw_373, mw_371, mw_372, mw_5, ⟨by decide +kernel, by decide +kernel, by decide +kernel⟩⟩
theorem mf_X1_copyFrom : MfV yX1_copyFrom cX1_copyFrom 2 none 1 := ⟨mw_446, mw_444, mw_445, mw_2, ⟨by decide +kernel, by decide +kernel, by decide +kernel⟩⟩
theorem mf_X2_putShare : MfV yX2_putShare cX2_putShare 4 none 3 := ⟨mw_201, mw_199, mw_200, mw_3, ⟨by decide +kernel, by decide +kernel, by decide +kernel⟩⟩
theorem mf_X2_copyFrom : MfV yX2_copyFrom cX2_copyFrom 3 none 1 := ⟨mw_450, mw_448, mw_449, mw_3, ⟨by decide +kernel, by decide +kernel, by decide +kernel⟩⟩
theorem mf_X3_copyFrom : MfV yX3_copyFrom cX3_copyFrom 3 none 1 := ⟨mw_457, mw_455, mw_456, mw_4, ⟨by decide +kernel, by decide +kernel, by decide +kernel⟩⟩
theorem mf_X3_isFull : MfV yX3_isFull cX3_isFull 1 (some .boolean) 0 := ⟨mw_303, mw_301, mw_302, mw_4, ⟨by decide +kernel, by decide +kernel, by decide +kernel⟩⟩
theorem mf_X3_isIdle : MfV yX3_isIdle cX3_isIdle 1 (some .boolean) 0 := ⟨mw_319, mw_317, mw_318, mw_4, ⟨by decide +kernel, by decide +kernel, by decide +kernel⟩⟩
theorem mf_X3_hasLot : MfV yX3_hasLot cX3_hasLot 2 (some .boolean) 1 := ⟨mw_416, mw_414, mw_415, mw_4, ⟨by decide +kernel, by decide +kernel, by decide +kernel⟩⟩
theorem mf_X3_create : MfV yX3_create cX3_create 7 (some .int) 4 := ⟨mw_307, mw_305, mw_306, mw_4, ⟨by decide +kernel, by decide +kernel, by decide +kernel⟩⟩
theorem mf_X3_plan : MfV yX3_plan cX3_plan 3 none 2 := ⟨mw_341, mw_339, mw_340, mw_4, ⟨by decide +kernel, by decide +kernel, by decide +kernel⟩⟩
theorem mf_X3_putIntoBin : MfV yX3_putIntoBin cX3_putIntoBin 2 none 1 := ⟨mw_311, mw_309, mw_310, mw_4, ⟨by decide +kernel, by decide +kernel, by decide +kernel⟩⟩
theorem mf_X3_run : MfV yX3_run cX3_run 6 none 2 := ⟨mw_349, mw_347, mw_348, mw_4, ⟨by decide +kernel, by decide +kernel, by decide +kernel⟩⟩
theorem mf_X3_nextEvent : MfV yX3_nextEvent cX3_nextEvent 4 (some .int) 0 := ⟨mw_353, mw_352, ms_3, mw_4, ⟨by decide +kernel, by decide +kernel, by decide +kernel⟩⟩
theorem mf_X3_finishIfDue : MfV yX3_finishIfDue cX3_finishIfDue 4 none 1 := ⟨mw_361, mw_360, ms_4, mw_4, ⟨by decide +kernel, by decide +kernel, by decide +kernel⟩⟩
theorem mf_X3_takePlannedLots : MfV yX3_takePlannedLots cX3_takePlannedLots 3 none 0 := ⟨mw_378, mw_377, ms_5, mw_4, ⟨by decide +kernel, by decide +kernel, by decide +kernel⟩⟩
theorem mf_X3_startIfIdle : MfV yX3_startIfIdle cX3_startIfIdle 4 none 1 := ⟨mw_315, mw_313, mw_314, mw_4, ⟨by decide +kernel, by decide +kernel, by decide +kernel⟩⟩
theorem mf_X3_countBin : MfV yX3_countBin cX3_countBin 3 (some .int) 0 := ⟨mw_395, mw_393, mw_394, mw_4, ⟨by decide +kernel, by decide +kernel, by decide +kernel⟩⟩
theorem mf_X3_firstOfBin : MfV yX3_firstOfBin cX3_firstOfBin 5 (some .int) 1 := ⟨mw_323, mw_322, ms_1, mw_4, ⟨by decide +kernel, by decide +kernel, by decide +kernel⟩⟩
theorem mf_X3_lotAt : MfV yX3_lotAt cX3_lotAt 5 (some .int) 2 := ⟨mw_399, mw_397, mw_398, mw_4, ⟨by decide +kernel, by decide +kernel, by decide +kernel⟩⟩
theorem mf_X3_countBefore : MfV yX3_countBefore cX3_countBefore 6 (some .int) 2 := ⟨mw_403, mw_402, ms_6, mw_4, ⟨by decide +kernel, by decide +kernel, by decide +kernel⟩⟩
theorem mf_X4_solveCut : MfV yX4_solveCut cX4_solveCut 4 none 2 := ⟨mw_283, mw_281, mw_282, mw_6, ⟨by decide +kernel, by decide +kernel, by decide +kernel⟩⟩
theorem mf_X4_solve : MfV yX4_solve cX4_solve 4 none 2 := ⟨mw_234, mw_232, mw_233, mw_6, ⟨by decide +kernel, by decide +kernel, by decide +kernel⟩⟩
theorem mf_X4_solveSize : MfV yX4_solveSize cX4_solveSize 9 none 3 := ⟨mw_238, mw_237, ms_0, mw_6, ⟨by decide +kernel, by decide +kernel, by decide +kernel⟩⟩
theorem mf_X4_brokenInto : MfV yX4_brokenInto cX4_brokenInto 6 (some .long) 2 := ⟨mw_242, mw_240, mw_241, mw_6, ⟨by decide +kernel, by decide +kernel, by decide +kernel⟩⟩
theorem mf_X4_sumOfLoads : MfV yX4_sumOfLoads cX4_sumOfLoads 8 (some .long) 0 := ⟨mw_267, mw_265, mw_266, mw_6, ⟨by decide +kernel, by decide +kernel, by decide +kernel⟩⟩
theorem mf_X4_scaledPower : MfV yX4_scaledPower cX4_scaledPower 5 (some .long) 1 := ⟨mw_275, mw_273, mw_274, mw_6, ⟨by decide +kernel, by decide +kernel, by decide +kernel⟩⟩
theorem e_0 (G : GG) (o : Nat) : ∀ (f : Nat → Int32) (g : Nat → Int64), shp G o 0 f g = .inr (5, [.ref (o + 1), .ref (o + 94), .ref (o + 281), .ref (o + 282)]) := fun _ _ => rfl
theorem e_1 (G : GG) (o : Nat) : ∀ (f : Nat → Int32) (g : Nat → Int64), shp G o 1 f g = .inr (1, [.ref (o + 2), .ref (o + 11)]) := fun _ _ => rfl
theorem e_2 (G : GG) (o : Nat) : ∀ (f : Nat → Int32) (g : Nat → Int64), shp G o 2 f g = .inr (2, [.ref (o + 3), .ref (o + 8), .ref (o + 9), .ref (o + 10), .int (f 4), .int (f 5)]) := fun _ _ => rfl
theorem e_3 (G : GG) (o : Nat) : ∀ (f : Nat → Int32) (g : Nat → Int64), shp G o 3 f g = .inl (G.2 5, 4, .inr (.inr (.inr (.inr (fun i => if i < 4 then some (o + (1 + (3 + i))) else none))))) := fun _ _ => rfl
theorem e_4 (G : GG) (o : Nat) : ∀ (f : Nat → Int32) (g : Nat → Int64), shp G o 4 f g = .inl (G.2 0, 4, .inl f) := fun _ _ => rfl
theorem e_5 (G : GG) (o : Nat) : ∀ (f : Nat → Int32) (g : Nat → Int64), shp G o 5 f g = .inl (G.2 0, 4, .inl f) := fun _ _ => rfl
theorem e_6 (G : GG) (o : Nat) : ∀ (f : Nat → Int32) (g : Nat → Int64), shp G o 6 f g = .inl (G.2 0, 4, .inl f) := fun _ _ => rfl
theorem e_7 (G : GG) (o : Nat) : ∀ (f : Nat → Int32) (g : Nat → Int64), shp G o 7 f g = .inl (G.2 0, 4, .inl f) := fun _ _ => rfl
theorem e_8 (G : GG) (o : Nat) : ∀ (f : Nat → Int32) (g : Nat → Int64), shp G o 8 f g = .inl (G.2 0, 4, .inl f) := fun _ _ => rfl
theorem e_9 (G : GG) (o : Nat) : ∀ (f : Nat → Int32) (g : Nat → Int64), shp G o 9 f g = .inl (G.2 0, 4, .inl f) := fun _ _ => rfl
theorem e_10 (G : GG) (o : Nat) : ∀ (f : Nat → Int32) (g : Nat → Int64), shp G o 10 f g = .inl (G.2 0, 4, .inl f) := fun _ _ => rfl
theorem e_11 (G : GG) (o : Nat) : ∀ (f : Nat → Int32) (g : Nat → Int64), shp G o 11 f g = .inr (3, [.ref (o + 12), .ref (o + 13), .int (f 2), .int (f 3), .int (f 4), .int (f 5), .int (f 6), .int (f 7), .int (f 8)]) := fun _ _ => rfl
theorem e_12 (G : GG) (o : Nat) : ∀ (f : Nat → Int32) (g : Nat → Int64), shp G o 12 f g = .inl (G.2 3, 40, .inr (.inr (.inr (.inr (fun i => if i < 40 then some (o + (1 + (13 + 2 * i))) else none))))) := fun _ _ => rfl
theorem e_13 (G : GG) (o : Nat) : ∀ (f : Nat → Int32) (g : Nat → Int64), shp G o 13 f g = .inl (G.2 0, 4, .inl f) := fun _ _ => rfl
theorem e_94 (G : GG) (o : Nat) : ∀ (f : Nat → Int32) (g : Nat → Int64), shp G o 94 f g = .inl (G.2 4, 2, .inr (.inr (.inr (.inr (fun i => if i = 0 then some (o + 95) else if i = 1 then some (o + 188) else none))))) := fun _ _ => rfl
theorem e_95 (G : GG) (o : Nat) : ∀ (f : Nat → Int32) (g : Nat → Int64), shp G o 95 f g = .inr (1, [.ref (o + 96), .ref (o + 105)]) := fun _ _ => rfl
theorem e_96 (G : GG) (o : Nat) : ∀ (f : Nat → Int32) (g : Nat → Int64), shp G o 96 f g = .inr (2, [.ref (o + 97), .ref (o + 102), .ref (o + 103), .ref (o + 104), .int (f 4), .int (f 5)]) := fun _ _ => rfl
theorem e_97 (G : GG) (o : Nat) : ∀ (f : Nat → Int32) (g : Nat → Int64), shp G o 97 f g = .inl (G.2 5, 4, .inr (.inr (.inr (.inr (fun i => if i < 4 then some (o + (95 + (3 + i))) else none))))) := fun _ _ => rfl
theorem e_98 (G : GG) (o : Nat) : ∀ (f : Nat → Int32) (g : Nat → Int64), shp G o 98 f g = .inl (G.2 0, 4, .inl f) := fun _ _ => rfl
theorem e_99 (G : GG) (o : Nat) : ∀ (f : Nat → Int32) (g : Nat → Int64), shp G o 99 f g = .inl (G.2 0, 4, .inl f) := fun _ _ => rfl
theorem e_100 (G : GG) (o : Nat) : ∀ (f : Nat → Int32) (g : Nat → Int64), shp G o 100 f g = .inl (G.2 0, 4, .inl f) := fun _ _ => rfl
theorem e_101 (G : GG) (o : Nat) : ∀ (f : Nat → Int32) (g : Nat → Int64), shp G o 101 f g = .inl (G.2 0, 4, .inl f) := fun _ _ => rfl
theorem e_102 (G : GG) (o : Nat) : ∀ (f : Nat → Int32) (g : Nat → Int64), shp G o 102 f g = .inl (G.2 0, 4, .inl f) := fun _ _ => rfl
theorem e_103 (G : GG) (o : Nat) : ∀ (f : Nat → Int32) (g : Nat → Int64), shp G o 103 f g = .inl (G.2 0, 4, .inl f) := fun _ _ => rfl
theorem e_104 (G : GG) (o : Nat) : ∀ (f : Nat → Int32) (g : Nat → Int64), shp G o 104 f g = .inl (G.2 0, 4, .inl f) := fun _ _ => rfl
theorem e_105 (G : GG) (o : Nat) : ∀ (f : Nat → Int32) (g : Nat → Int64), shp G o 105 f g = .inr (3, [.ref (o + 106), .ref (o + 107), .int (f 2), .int (f 3), .int (f 4), .int (f 5), .int (f 6), .int (f 7), .int (f 8)]) := fun _ _ => rfl
theorem e_106 (G : GG) (o : Nat) : ∀ (f : Nat → Int32) (g : Nat → Int64), shp G o 106 f g = .inl (G.2 3, 40, .inr (.inr (.inr (.inr (fun i => if i < 40 then some (o + (95 + (13 + 2 * i))) else none))))) := fun _ _ => rfl
theorem e_107 (G : GG) (o : Nat) : ∀ (f : Nat → Int32) (g : Nat → Int64), shp G o 107 f g = .inl (G.2 0, 4, .inl f) := fun _ _ => rfl
theorem e_188 (G : GG) (o : Nat) : ∀ (f : Nat → Int32) (g : Nat → Int64), shp G o 188 f g = .inr (1, [.ref (o + 189), .ref (o + 198)]) := fun _ _ => rfl
theorem e_189 (G : GG) (o : Nat) : ∀ (f : Nat → Int32) (g : Nat → Int64), shp G o 189 f g = .inr (2, [.ref (o + 190), .ref (o + 195), .ref (o + 196), .ref (o + 197), .int (f 4), .int (f 5)]) := fun _ _ => rfl
theorem e_190 (G : GG) (o : Nat) : ∀ (f : Nat → Int32) (g : Nat → Int64), shp G o 190 f g = .inl (G.2 5, 4, .inr (.inr (.inr (.inr (fun i => if i < 4 then some (o + (188 + (3 + i))) else none))))) := fun _ _ => rfl
theorem e_191 (G : GG) (o : Nat) : ∀ (f : Nat → Int32) (g : Nat → Int64), shp G o 191 f g = .inl (G.2 0, 4, .inl f) := fun _ _ => rfl
theorem e_192 (G : GG) (o : Nat) : ∀ (f : Nat → Int32) (g : Nat → Int64), shp G o 192 f g = .inl (G.2 0, 4, .inl f) := fun _ _ => rfl
theorem e_193 (G : GG) (o : Nat) : ∀ (f : Nat → Int32) (g : Nat → Int64), shp G o 193 f g = .inl (G.2 0, 4, .inl f) := fun _ _ => rfl
theorem e_194 (G : GG) (o : Nat) : ∀ (f : Nat → Int32) (g : Nat → Int64), shp G o 194 f g = .inl (G.2 0, 4, .inl f) := fun _ _ => rfl
theorem e_195 (G : GG) (o : Nat) : ∀ (f : Nat → Int32) (g : Nat → Int64), shp G o 195 f g = .inl (G.2 0, 4, .inl f) := fun _ _ => rfl
theorem e_196 (G : GG) (o : Nat) : ∀ (f : Nat → Int32) (g : Nat → Int64), shp G o 196 f g = .inl (G.2 0, 4, .inl f) := fun _ _ => rfl
theorem e_197 (G : GG) (o : Nat) : ∀ (f : Nat → Int32) (g : Nat → Int64), shp G o 197 f g = .inl (G.2 0, 4, .inl f) := fun _ _ => rfl
theorem e_198 (G : GG) (o : Nat) : ∀ (f : Nat → Int32) (g : Nat → Int64), shp G o 198 f g = .inr (3, [.ref (o + 199), .ref (o + 200), .int (f 2), .int (f 3), .int (f 4), .int (f 5), .int (f 6), .int (f 7), .int (f 8)]) := fun _ _ => rfl
theorem e_199 (G : GG) (o : Nat) : ∀ (f : Nat → Int32) (g : Nat → Int64), shp G o 199 f g = .inl (G.2 3, 40, .inr (.inr (.inr (.inr (fun i => if i < 40 then some (o + (188 + (13 + 2 * i))) else none))))) := fun _ _ => rfl
theorem e_200 (G : GG) (o : Nat) : ∀ (f : Nat → Int32) (g : Nat → Int64), shp G o 200 f g = .inl (G.2 0, 4, .inl f) := fun _ _ => rfl
theorem e_281 (G : GG) (o : Nat) : ∀ (f : Nat → Int32) (g : Nat → Int64), shp G o 281 f g = .inl (G.2 2, 2, .inl f) := fun _ _ => rfl
theorem e_282 (G : GG) (o : Nat) : ∀ (f : Nat → Int32) (g : Nat → Int64), shp G o 282 f g = .inr (4, [.ref (o + 283), .ref (o + 284), .long (g 2), .int (f 3)]) := fun _ _ => rfl
theorem e_283 (G : GG) (o : Nat) : ∀ (f : Nat → Int32) (g : Nat → Int64), shp G o 283 f g = .inl (G.2 1, 4, .inr (.inl g)) := fun _ _ => rfl
theorem e_284 (G : GG) (o : Nat) : ∀ (f : Nat → Int32) (g : Nat → Int64), shp G o 284 f g = .inl (G.2 0, 4, .inl f) := fun _ _ => rfl
theorem e_285 (G : GG) (o : Nat) : ∀ (f : Nat → Int32) (g : Nat → Int64), shp G o 285 f g = .inr (6, [.ref (o + 286), .ref (o + 287), .ref (o + 288), .ref (o + 289), .ref (o + 290), .long (g 5), .ref (o + 291)]) := fun _ _ => rfl
theorem e_286 (G : GG) (o : Nat) : ∀ (f : Nat → Int32) (g : Nat → Int64), shp G o 286 f g = .inl (G.2 0, 361, .inl f) := fun _ _ => rfl
theorem e_287 (G : GG) (o : Nat) : ∀ (f : Nat → Int32) (g : Nat → Int64), shp G o 287 f g = .inl (G.2 0, 722, .inl f) := fun _ _ => rfl
theorem e_288 (G : GG) (o : Nat) : ∀ (f : Nat → Int32) (g : Nat → Int64), shp G o 288 f g = .inl (G.2 2, 2, .inl f) := fun _ _ => rfl
theorem e_289 (G : GG) (o : Nat) : ∀ (f : Nat → Int32) (g : Nat → Int64), shp G o 289 f g = .inl (G.2 0, 4, .inl f) := fun _ _ => rfl
theorem e_290 (G : GG) (o : Nat) : ∀ (f : Nat → Int32) (g : Nat → Int64), shp G o 290 f g = .inl (G.2 1, 4, .inr (.inl g)) := fun _ _ => rfl
theorem e_291 (G : GG) (o : Nat) : ∀ (f : Nat → Int32) (g : Nat → Int64), shp G o 291 f g = .inl (G.2 0, 4, .inl f) := fun _ _ => rfl
theorem el_14 (G : GG) (o : Nat) {i : Nat} (hi : i < 40) : ∀ (f : Nat → Int32) (g : Nat → Int64), shp G o (14 + 2 * i) f g = .inr (0, [.ref (o + (15 + 2 * i)), .int (f 1), .int (f 2), .int (f 3), .int (f 4)]) := by
  intro f g
  rw [shp, if_neg (by omega), if_pos (by omega)]
  rw [show 14 + 2 * i - 1 = 2 * i + 13 by omega]
  show (if 2 * i % 2 = 0 then _ else _ : va_E) = _
  rw [if_pos (by omega), show o + (1 + (2 * i + 14)) = o + (15 + 2 * i) by omega]
theorem em_14 (G : GG) (o : Nat) {i : Nat} (hi : i < 40) : ∀ (f : Nat → Int32) (g : Nat → Int64), shp G o (15 + 2 * i) f g = .inl (G.2 0, 4, .inl f) := by
  intro f g
  rw [shp, if_neg (by omega), if_pos (by omega)]
  rw [show 15 + 2 * i - 1 = (2 * i + 1) + 13 by omega]
  show (if (2 * i + 1) % 2 = 0 then _ else _ : va_E) = _
  rw [if_neg (by omega)]
theorem ql_14 {o i : Nat} (hi : i < 40) : (fun i => if i < 40 then some (o + (1 + (13 + 2 * i))) else none) i = some (o + (14 + 2 * i)) := by
  show (if i < 40 then some (o + (1 + (13 + 2 * i))) else none) = _
  rw [if_pos hi, show o + (1 + (13 + 2 * i)) = o + (14 + 2 * i) by omega]
theorem el_108 (G : GG) (o : Nat) {i : Nat} (hi : i < 40) : ∀ (f : Nat → Int32) (g : Nat → Int64), shp G o (108 + 2 * i) f g = .inr (0, [.ref (o + (109 + 2 * i)), .int (f 1), .int (f 2), .int (f 3), .int (f 4)]) := by
  intro f g
  rw [shp, if_neg (by omega), if_neg (by omega), if_neg (by omega), if_pos (by omega)]
  rw [show 108 + 2 * i - 95 = 2 * i + 13 by omega]
  show (if 2 * i % 2 = 0 then _ else _ : va_E) = _
  rw [if_pos (by omega), show o + (95 + (2 * i + 14)) = o + (109 + 2 * i) by omega]
theorem em_108 (G : GG) (o : Nat) {i : Nat} (hi : i < 40) : ∀ (f : Nat → Int32) (g : Nat → Int64), shp G o (109 + 2 * i) f g = .inl (G.2 0, 4, .inl f) := by
  intro f g
  rw [shp, if_neg (by omega), if_neg (by omega), if_neg (by omega), if_pos (by omega)]
  rw [show 109 + 2 * i - 95 = (2 * i + 1) + 13 by omega]
  show (if (2 * i + 1) % 2 = 0 then _ else _ : va_E) = _
  rw [if_neg (by omega)]
theorem ql_108 {o i : Nat} (hi : i < 40) : (fun i => if i < 40 then some (o + (95 + (13 + 2 * i))) else none) i = some (o + (108 + 2 * i)) := by
  show (if i < 40 then some (o + (95 + (13 + 2 * i))) else none) = _
  rw [if_pos hi, show o + (95 + (13 + 2 * i)) = o + (108 + 2 * i) by omega]
theorem el_201 (G : GG) (o : Nat) {i : Nat} (hi : i < 40) : ∀ (f : Nat → Int32) (g : Nat → Int64), shp G o (201 + 2 * i) f g = .inr (0, [.ref (o + (202 + 2 * i)), .int (f 1), .int (f 2), .int (f 3), .int (f 4)]) := by
  intro f g
  rw [shp, if_neg (by omega), if_neg (by omega), if_neg (by omega), if_neg (by omega), if_pos (by omega)]
  rw [show 201 + 2 * i - 188 = 2 * i + 13 by omega]
  show (if 2 * i % 2 = 0 then _ else _ : va_E) = _
  rw [if_pos (by omega), show o + (188 + (2 * i + 14)) = o + (202 + 2 * i) by omega]
theorem em_201 (G : GG) (o : Nat) {i : Nat} (hi : i < 40) : ∀ (f : Nat → Int32) (g : Nat → Int64), shp G o (202 + 2 * i) f g = .inl (G.2 0, 4, .inl f) := by
  intro f g
  rw [shp, if_neg (by omega), if_neg (by omega), if_neg (by omega), if_neg (by omega), if_pos (by omega)]
  rw [show 202 + 2 * i - 188 = (2 * i + 1) + 13 by omega]
  show (if (2 * i + 1) % 2 = 0 then _ else _ : va_E) = _
  rw [if_neg (by omega)]
theorem ql_201 {o i : Nat} (hi : i < 40) : (fun i => if i < 40 then some (o + (188 + (13 + 2 * i))) else none) i = some (o + (201 + 2 * i)) := by
  show (if i < 40 then some (o + (188 + (13 + 2 * i))) else none) = _
  rw [if_pos hi, show o + (188 + (13 + 2 * i)) = o + (201 + 2 * i) by omega]
end
section
/-! ===== 05: contracts of the small helpers ===== -/
theorem rI1 {P : Prop} [Decidable P] (h : P) : some (Value.int (bI P)) = some (.int 1) := by rw [bI_t h]
theorem rI0 {P : Prop} [Decidable P] (h : ¬ P) : some (Value.int (bI P)) = some (.int 0) := by rw [bI_f h]
theorem i32_le {a b : Int32} (h : ¬ a < b) : b ≤ a := by
  rw [Int32.lt_iff_toInt_lt] at h
  rw [Int32.le_iff_toInt_le]
  omega
theorem i32_nle {a b : Int32} (h : a < b) : ¬ b ≤ a := by
  rw [Int32.lt_iff_toInt_lt] at h
  rw [Int32.le_iff_toInt_le]
  omega
theorem wi_t {v lo hi : Int32} (h1 : ¬ v < lo) (h2 : ¬ hi < v) : Wi v lo hi := ⟨i32_le h1, i32_le h2⟩
theorem wi_f1 {v lo hi : Int32} (h1 : v < lo) : ¬ Wi v lo hi := fun q => i32_nle h1 q.1
theorem wi_f2 {v lo hi : Int32} (h1 : hi < v) : ¬ Wi v lo hi := fun q => i32_nle h1 q.2
/-- the sum of four masses, as the class adds them -/
def sum4 (f : Nat → Int32) : Int32 := 0 + f 0 + f 1 + f 2 + f 3
/-- a lot's masses as they may be -/
abbrev MassOK (a b c d : Int32) : Prop := Wi a 0 200 ∧ Wi b 0 200 ∧ Wi c 0 200 ∧ Wi d 0 200 ∧ 0 < a + b + c + d
set_option maxRecDepth 100000 in
set_option maxHeartbeats 4000000 in
theorem c_X5_isWithin (l : Launch) (G : GG) (o : Nat) (X : SX) (Y : SY) (v : Int32) (lo : Int32) (hi : Int32) : Ct l yX5_isWithin cX5_isWithin 3 (some .boolean) 0 0 G o [.int v, .int lo, .int hi] X Y (some (.int (bI (Wi v lo hi)))) X Y := by
  refine Ct.mk (by decide +kernel) (Nat.le_of_ble_eq_true rfl) rfl ?_
  intro p9 e9 s9 m9 args9 below9 meth9 c9 hE hr hlocks hK hI ls hl
  have hx := hE.1
  have hb := hE.2.1
  have hl : lv_has ls 3 [(0, .int v), (1, .int lo), (2, .int hi)] := hl
  refine lv_iload_n hx hb dX5_isWithin_0 rfl (lv_at hl 0 rfl) ?_
  refine lv_iload_n hx hb dX5_isWithin_1 rfl (lv_at hl 1 rfl) ?_
  refine lv_icmp_lt (tgt := 14) hx hb dX5_isWithin_2 (by decide) (fun c1 => ?_) (fun c1 => ?_)
  · refine lv_iconst (v := 0) hx hb dX5_isWithin_14 (by decide) ?_
    exact x_zret hE hr hlocks hI (by decide) (rI0 (wi_f1 c1)) rfl rfl dX5_isWithin_15
  · refine lv_iload_n hx hb dX5_isWithin_5 rfl (lv_at hl 0 rfl) ?_
    refine lv_iload_n hx hb dX5_isWithin_6 rfl (lv_at hl 2 rfl) ?_
    refine lv_icmp_gt (tgt := 14) hx hb dX5_isWithin_7 (by decide) (fun c2 => ?_) (fun c2 => ?_)
    · refine lv_iconst (v := 0) hx hb dX5_isWithin_14 (by decide) ?_
      exact x_zret hE hr hlocks hI (by decide) (rI0 (wi_f2 c2)) rfl rfl dX5_isWithin_15
    · refine lv_iconst (v := 1) hx hb dX5_isWithin_10 (by decide) ?_
      refine lv_goto (tgt := 15) hx hb dX5_isWithin_11 (by decide) ?_
      exact x_zret hE hr hlocks hI (by decide) (rI1 (wi_t c1 c2)) rfl rfl dX5_isWithin_15
set_option maxRecDepth 100000 in
set_option maxHeartbeats 4000000 in
theorem c_X6_in (l : Launch) (G : GG) (o : Nat) (X : SX) (Y : SY) (v : Int32) (lo : Int32) (hi : Int32) : Ct l yX6_in cX6_in 3 (some .boolean) 0 0 G o [.int v, .int lo, .int hi] X Y (some (.int (bI (Wi v lo hi)))) X Y := by
  refine Ct.mk (by decide +kernel) (Nat.le_of_ble_eq_true rfl) rfl ?_
  intro p9 e9 s9 m9 args9 below9 meth9 c9 hE hr hlocks hK hI ls hl
  have hx := hE.1
  have hb := hE.2.1
  have hl : lv_has ls 3 [(0, .int v), (1, .int lo), (2, .int hi)] := hl
  refine lv_iload_n hx hb dX6_in_0 rfl (lv_at hl 0 rfl) ?_
  refine lv_iload_n hx hb dX6_in_1 rfl (lv_at hl 1 rfl) ?_
  refine lv_icmp_lt (tgt := 14) hx hb dX6_in_2 (by decide) (fun c1 => ?_) (fun c1 => ?_)
  · refine lv_iconst (v := 0) hx hb dX6_in_14 (by decide) ?_
    exact x_zret hE hr hlocks hI (by decide) (rI0 (wi_f1 c1)) rfl rfl dX6_in_15
  · refine lv_iload_n hx hb dX6_in_5 rfl (lv_at hl 0 rfl) ?_
    refine lv_iload_n hx hb dX6_in_6 rfl (lv_at hl 2 rfl) ?_
    refine lv_icmp_gt (tgt := 14) hx hb dX6_in_7 (by decide) (fun c2 => ?_) (fun c2 => ?_)
    · refine lv_iconst (v := 0) hx hb dX6_in_14 (by decide) ?_
      exact x_zret hE hr hlocks hI (by decide) (rI0 (wi_f2 c2)) rfl rfl dX6_in_15
    · refine lv_iconst (v := 1) hx hb dX6_in_10 (by decide) ?_
      refine lv_goto (tgt := 15) hx hb dX6_in_11 (by decide) ?_
      exact x_zret hE hr hlocks hI (by decide) (rI1 (wi_t c1 c2)) rfl rfl dX6_in_15
set_option maxRecDepth 100000 in
set_option maxHeartbeats 4000000 in
theorem c_X5_isSize (l : Launch) (G : GG) (o : Nat) (X : SX) (Y : SY) (v : Int32) : Ct l yX5_isSize cX5_isSize 1 (some .boolean) 1 22 G o [.int v] X Y (some (.int (bI (Wi v 0 3)))) X Y := by
  refine Ct.mk (by decide +kernel) (Nat.le_of_ble_eq_true rfl) rfl ?_
  intro p9 e9 s9 m9 args9 below9 meth9 c9 hE hr hlocks hK hI ls hl
  have hx := hE.1
  have hb := hE.2.1
  have hl : lv_has ls 1 [(0, .int v)] := hl
  refine lv_iload_n hx hb dX5_isSize_0 rfl (lv_at hl 0 rfl) ?_
  refine lv_iconst (v := 0) hx hb dX5_isSize_1 (by decide) ?_
  refine lv_iconst (v := 3) hx hb dX5_isSize_2 (by decide) ?_
  refine x_callSi hE hK hI (c_X5_isWithin l G o _ _ v 0 3 ) mf_X5_isWithin mw_192 rfl hl.1 rfl (Nat.le_of_ble_eq_true rfl) ⟨(Nat.le_of_ble_eq_true rfl), (Nat.le_of_ble_eq_true rfl)⟩ ⟨Nat.zero_le _, Nat.zero_le _⟩ dX5_isSize_3 (fun H locs hI => ?_)
  exact x_zret hE hr hlocks hI bI_01 rfl rfl rfl dX5_isSize_6
set_option maxRecDepth 100000 in
set_option maxHeartbeats 4000000 in
theorem c_X6_isSize (l : Launch) (G : GG) (o : Nat) (X : SX) (Y : SY) (v : Int32) : Ct l yX6_isSize cX6_isSize 1 (some .boolean) 1 22 G o [.int v] X Y (some (.int (bI (Wi v 0 3)))) X Y := by
  refine Ct.mk (by decide +kernel) (Nat.le_of_ble_eq_true rfl) rfl ?_
  intro p9 e9 s9 m9 args9 below9 meth9 c9 hE hr hlocks hK hI ls hl
  have hx := hE.1
  have hb := hE.2.1
  have hl : lv_has ls 1 [(0, .int v)] := hl
  refine lv_iload_n hx hb dX6_isSize_0 rfl (lv_at hl 0 rfl) ?_
  refine lv_iconst (v := 0) hx hb dX6_isSize_1 (by decide) ?_
  refine lv_iconst (v := 3) hx hb dX6_isSize_2 (by decide) ?_
  refine x_callSi hE hK hI (c_X6_in l G o _ _ v 0 3 ) mf_X6_in mw_503 rfl hl.1 rfl (Nat.le_of_ble_eq_true rfl) ⟨(Nat.le_of_ble_eq_true rfl), (Nat.le_of_ble_eq_true rfl)⟩ ⟨Nat.zero_le _, Nat.zero_le _⟩ dX6_isSize_3 (fun H locs hI => ?_)
  exact x_zret hE hr hlocks hI bI_01 rfl rfl rfl dX6_isSize_6
set_option maxRecDepth 100000 in
set_option maxHeartbeats 4000000 in
theorem c_X5_isSlot (l : Launch) (G : GG) (o : Nat) (X : SX) (Y : SY) (v : Int32) : Ct l yX5_isSlot cX5_isSlot 1 (some .boolean) 1 22 G o [.int v] X Y (some (.int (bI (Wi v 0 1)))) X Y := by
  refine Ct.mk (by decide +kernel) (Nat.le_of_ble_eq_true rfl) rfl ?_
  intro p9 e9 s9 m9 args9 below9 meth9 c9 hE hr hlocks hK hI ls hl
  have hx := hE.1
  have hb := hE.2.1
  have hl : lv_has ls 1 [(0, .int v)] := hl
  refine lv_iload_n hx hb dX5_isSlot_0 rfl (lv_at hl 0 rfl) ?_
  refine lv_iconst (v := 0) hx hb dX5_isSlot_1 (by decide) ?_
  refine lv_iconst (v := 1) hx hb dX5_isSlot_2 (by decide) ?_
  refine x_callSi hE hK hI (c_X5_isWithin l G o _ _ v 0 1 ) mf_X5_isWithin mw_192 rfl hl.1 rfl (Nat.le_of_ble_eq_true rfl) ⟨(Nat.le_of_ble_eq_true rfl), (Nat.le_of_ble_eq_true rfl)⟩ ⟨Nat.zero_le _, Nat.zero_le _⟩ dX5_isSlot_3 (fun H locs hI => ?_)
  exact x_zret hE hr hlocks hI bI_01 rfl rfl rfl dX5_isSlot_6
set_option maxRecDepth 100000 in
set_option maxHeartbeats 4000000 in
theorem c_X5_isLotMass (l : Launch) (G : GG) (o : Nat) (X : SX) (Y : SY) (v : Int32) : Ct l yX5_isLotMass cX5_isLotMass 1 (some .boolean) 1 22 G o [.int v] X Y (some (.int (bI (Wi v 0 200)))) X Y := by
  refine Ct.mk (by decide +kernel) (Nat.le_of_ble_eq_true rfl) rfl ?_
  intro p9 e9 s9 m9 args9 below9 meth9 c9 hE hr hlocks hK hI ls hl
  have hx := hE.1
  have hb := hE.2.1
  have hl : lv_has ls 1 [(0, .int v)] := hl
  refine lv_iload_n hx hb dX5_isLotMass_0 rfl (lv_at hl 0 rfl) ?_
  refine lv_iconst (v := 0) hx hb dX5_isLotMass_1 (by decide) ?_
  refine lv_sipush (v := 200) hx hb dX5_isLotMass_2 (by decide) ?_
  refine x_callSi hE hK hI (c_X5_isWithin l G o _ _ v 0 200 ) mf_X5_isWithin mw_192 rfl hl.1 rfl (Nat.le_of_ble_eq_true rfl) ⟨(Nat.le_of_ble_eq_true rfl), (Nat.le_of_ble_eq_true rfl)⟩ ⟨Nat.zero_le _, Nat.zero_le _⟩ dX5_isLotMass_5 (fun H locs hI => ?_)
  exact x_zret hE hr hlocks hI bI_01 rfl rfl rfl dX5_isLotMass_8
set_option maxRecDepth 100000 in
set_option maxHeartbeats 4000000 in
theorem c_X6_isMass (l : Launch) (G : GG) (o : Nat) (X : SX) (Y : SY) (v : Int32) : Ct l yX6_isMass cX6_isMass 1 (some .boolean) 1 22 G o [.int v] X Y (some (.int (bI (Wi v 0 200)))) X Y := by
  refine Ct.mk (by decide +kernel) (Nat.le_of_ble_eq_true rfl) rfl ?_
  intro p9 e9 s9 m9 args9 below9 meth9 c9 hE hr hlocks hK hI ls hl
  have hx := hE.1
  have hb := hE.2.1
  have hl : lv_has ls 1 [(0, .int v)] := hl
  refine lv_iload_n hx hb dX6_isMass_0 rfl (lv_at hl 0 rfl) ?_
  refine lv_iconst (v := 0) hx hb dX6_isMass_1 (by decide) ?_
  refine lv_sipush (v := 200) hx hb dX6_isMass_2 (by decide) ?_
  refine x_callSi hE hK hI (c_X6_in l G o _ _ v 0 200 ) mf_X6_in mw_503 rfl hl.1 rfl (Nat.le_of_ble_eq_true rfl) ⟨(Nat.le_of_ble_eq_true rfl), (Nat.le_of_ble_eq_true rfl)⟩ ⟨Nat.zero_le _, Nat.zero_le _⟩ dX6_isMass_5 (fun H locs hI => ?_)
  exact x_zret hE hr hlocks hI bI_01 rfl rfl rfl dX6_isMass_8
set_option maxRecDepth 100000 in
set_option maxHeartbeats 4000000 in
theorem c_X6_isPart (l : Launch) (G : GG) (o : Nat) (X : SX) (Y : SY) (v : Int32) : Ct l yX6_isPart cX6_isPart 1 (some .boolean) 1 22 G o [.int v] X Y (some (.int (bI (Wi v 0 1)))) X Y := by
  refine Ct.mk (by decide +kernel) (Nat.le_of_ble_eq_true rfl) rfl ?_
  intro p9 e9 s9 m9 args9 below9 meth9 c9 hE hr hlocks hK hI ls hl
  have hx := hE.1
  have hb := hE.2.1
  have hl : lv_has ls 1 [(0, .int v)] := hl
  refine lv_iload_n hx hb dX6_isPart_0 rfl (lv_at hl 0 rfl) ?_
  refine lv_iconst (v := 0) hx hb dX6_isPart_1 (by decide) ?_
  refine lv_iconst (v := 1) hx hb dX6_isPart_2 (by decide) ?_
  refine x_callSi hE hK hI (c_X6_in l G o _ _ v 0 1 ) mf_X6_in mw_503 rfl hl.1 rfl (Nat.le_of_ble_eq_true rfl) ⟨(Nat.le_of_ble_eq_true rfl), (Nat.le_of_ble_eq_true rfl)⟩ ⟨Nat.zero_le _, Nat.zero_le _⟩ dX6_isPart_3 (fun H locs hI => ?_)
  exact x_zret hE hr hlocks hI bI_01 rfl rfl rfl dX6_isPart_6
set_option maxRecDepth 100000 in
set_option maxHeartbeats 4000000 in
theorem c_X5_isZeroOrOne (l : Launch) (G : GG) (o : Nat) (X : SX) (Y : SY) (v : Int32) : Ct l yX5_isZeroOrOne cX5_isZeroOrOne 1 (some .boolean) 0 0 G o [.int v] X Y (some (.int (bI (v = 0 ∨ v = 1)))) X Y := by
  refine Ct.mk (by decide +kernel) (Nat.le_of_ble_eq_true rfl) rfl ?_
  intro p9 e9 s9 m9 args9 below9 meth9 c9 hE hr hlocks hK hI ls hl
  have hx := hE.1
  have hb := hE.2.1
  have hl : lv_has ls 1 [(0, .int v)] := hl
  refine lv_iload_n hx hb dX5_isZeroOrOne_0 rfl (lv_at hl 0 rfl) ?_
  refine lv_if_eq (tgt := 9) hx hb dX5_isZeroOrOne_1 (by decide) (fun c1 => ?_) (fun c1 => ?_)
  · refine lv_iconst (v := 1) hx hb dX5_isZeroOrOne_9 (by decide) ?_
    refine lv_goto (tgt := 14) hx hb dX5_isZeroOrOne_10 (by decide) ?_
    exact x_zret hE hr hlocks hI (by decide) (rI1 (Or.inl c1)) rfl rfl dX5_isZeroOrOne_14
  · refine lv_iload_n hx hb dX5_isZeroOrOne_4 rfl (lv_at hl 0 rfl) ?_
    refine lv_iconst (v := 1) hx hb dX5_isZeroOrOne_5 (by decide) ?_
    refine lv_icmp_ne (tgt := 13) hx hb dX5_isZeroOrOne_6 (by decide) (fun c2 => ?_) (fun c2 => ?_)
    · refine lv_iconst (v := 0) hx hb dX5_isZeroOrOne_13 (by decide) ?_
      exact x_zret hE hr hlocks hI (by decide) (rI0 (fun q => q.elim c1 c2)) rfl rfl dX5_isZeroOrOne_14
    · refine lv_iconst (v := 1) hx hb dX5_isZeroOrOne_9 (by decide) ?_
      refine lv_goto (tgt := 14) hx hb dX5_isZeroOrOne_10 (by decide) ?_
      exact x_zret hE hr hlocks hI (by decide) (rI1 (Or.inr c2)) rfl rfl dX5_isZeroOrOne_14
set_option maxRecDepth 100000 in
set_option maxHeartbeats 4000000 in
theorem c_X5_areLotMasses (l : Launch) (G : GG) (o : Nat) (X : SX) (Y : SY) (a : Int32) (b : Int32) (c : Int32) (d : Int32) : Ct l yX5_areLotMasses cX5_areLotMasses 4 (some .boolean) 2 42 G o [.int a, .int b, .int c, .int d] X Y (some (.int (bI (MassOK a b c d)))) X Y := by
  refine Ct.mk (by decide +kernel) (Nat.le_of_ble_eq_true rfl) rfl ?_
  intro p9 e9 s9 m9 args9 below9 meth9 c9 hE hr hlocks hK hI ls hl
  have hx := hE.1
  have hb := hE.2.1
  have hl : lv_has ls 4 [(0, .int a), (1, .int b), (2, .int c), (3, .int d)] := hl
  refine lv_iload_n hx hb dX5_areLotMasses_0 rfl (lv_at hl 0 rfl) ?_
  refine x_callSi hE hK hI (c_X5_isLotMass l G o _ _ a ) mf_X5_isLotMass mw_297 rfl hl.1 rfl (Nat.le_of_ble_eq_true rfl) ⟨(Nat.le_of_ble_eq_true rfl), (Nat.le_of_ble_eq_true rfl)⟩ ⟨Nat.zero_le _, Nat.zero_le _⟩ dX5_areLotMasses_1 (fun H locs hI => ?_)
  refine lv_if_eq (tgt := 42) hx hb dX5_areLotMasses_4 (by decide) (fun c1 => ?_) (fun c1 => ?_)
  · have c1 := bI_eq0.mp c1
    refine lv_iconst (v := 0) hx hb dX5_areLotMasses_42 (by decide) ?_
    exact x_zret hE hr hlocks hI (by decide) (rI0 (fun q => c1 (q.1))) rfl rfl dX5_areLotMasses_43
  · have c1 := bI_ne0.mp c1
    refine lv_iload_n hx hb dX5_areLotMasses_7 rfl (lv_at hl 1 rfl) ?_
    refine x_callSi hE hK hI (c_X5_isLotMass l G o _ _ b ) mf_X5_isLotMass mw_297 rfl hl.1 rfl (Nat.le_of_ble_eq_true rfl) ⟨(Nat.le_of_ble_eq_true rfl), (Nat.le_of_ble_eq_true rfl)⟩ ⟨Nat.zero_le _, Nat.zero_le _⟩ dX5_areLotMasses_8 (fun H locs hI => ?_)
    refine lv_if_eq (tgt := 42) hx hb dX5_areLotMasses_11 (by decide) (fun c2 => ?_) (fun c2 => ?_)
    · have c2 := bI_eq0.mp c2
      refine lv_iconst (v := 0) hx hb dX5_areLotMasses_42 (by decide) ?_
      exact x_zret hE hr hlocks hI (by decide) (rI0 (fun q => c2 (q.2.1))) rfl rfl dX5_areLotMasses_43
    · have c2 := bI_ne0.mp c2
      refine lv_iload_n hx hb dX5_areLotMasses_14 rfl (lv_at hl 2 rfl) ?_
      refine x_callSi hE hK hI (c_X5_isLotMass l G o _ _ c ) mf_X5_isLotMass mw_297 rfl hl.1 rfl (Nat.le_of_ble_eq_true rfl) ⟨(Nat.le_of_ble_eq_true rfl), (Nat.le_of_ble_eq_true rfl)⟩ ⟨Nat.zero_le _, Nat.zero_le _⟩ dX5_areLotMasses_15 (fun H locs hI => ?_)
      refine lv_if_eq (tgt := 42) hx hb dX5_areLotMasses_18 (by decide) (fun c3 => ?_) (fun c3 => ?_)
      · have c3 := bI_eq0.mp c3
        refine lv_iconst (v := 0) hx hb dX5_areLotMasses_42 (by decide) ?_
        exact x_zret hE hr hlocks hI (by decide) (rI0 (fun q => c3 (q.2.2.1))) rfl rfl dX5_areLotMasses_43
      · have c3 := bI_ne0.mp c3
        refine lv_iload_n hx hb dX5_areLotMasses_21 rfl (lv_at hl 3 rfl) ?_
        refine x_callSi hE hK hI (c_X5_isLotMass l G o _ _ d ) mf_X5_isLotMass mw_297 rfl hl.1 rfl (Nat.le_of_ble_eq_true rfl) ⟨(Nat.le_of_ble_eq_true rfl), (Nat.le_of_ble_eq_true rfl)⟩ ⟨Nat.zero_le _, Nat.zero_le _⟩ dX5_areLotMasses_22 (fun H locs hI => ?_)
        refine lv_if_eq (tgt := 42) hx hb dX5_areLotMasses_25 (by decide) (fun c4 => ?_) (fun c4 => ?_)
        · have c4 := bI_eq0.mp c4
          refine lv_iconst (v := 0) hx hb dX5_areLotMasses_42 (by decide) ?_
          exact x_zret hE hr hlocks hI (by decide) (rI0 (fun q => c4 (q.2.2.2.1))) rfl rfl dX5_areLotMasses_43
        · have c4 := bI_ne0.mp c4
          refine lv_iload_n hx hb dX5_areLotMasses_28 rfl (lv_at hl 0 rfl) ?_
          refine lv_iload_n hx hb dX5_areLotMasses_29 rfl (lv_at hl 1 rfl) ?_
          refine lv_iadd hx hb dX5_areLotMasses_30 ?_
          refine lv_iload_n hx hb dX5_areLotMasses_31 rfl (lv_at hl 2 rfl) ?_
          refine lv_iadd hx hb dX5_areLotMasses_32 ?_
          refine lv_iload_n hx hb dX5_areLotMasses_33 rfl (lv_at hl 3 rfl) ?_
          refine lv_iadd hx hb dX5_areLotMasses_34 ?_
          refine lv_if_le (tgt := 42) hx hb dX5_areLotMasses_35 (by decide) (fun c5 => ?_) (fun c5 => ?_)
          · refine lv_iconst (v := 0) hx hb dX5_areLotMasses_42 (by decide) ?_
            exact x_zret hE hr hlocks hI (by decide) (rI0 (fun q => absurd (q.2.2.2.2) (Int32.not_lt.mpr c5))) rfl rfl dX5_areLotMasses_43
          · refine lv_iconst (v := 1) hx hb dX5_areLotMasses_38 (by decide) ?_
            refine lv_goto (tgt := 43) hx hb dX5_areLotMasses_39 (by decide) ?_
            exact x_zret hE hr hlocks hI (by decide) (rI1 ⟨c1, c2, c3, c4, Int32.not_le.mp c5⟩) rfl rfl dX5_areLotMasses_43
set_option maxRecDepth 100000 in
set_option maxHeartbeats 4000000 in
theorem c_X6_areMasses (l : Launch) (G : GG) (o : Nat) (X : SX) (Y : SY) (a : Int32) (b : Int32) (c : Int32) (d : Int32) : Ct l yX6_areMasses cX6_areMasses 4 (some .boolean) 2 42 G o [.int a, .int b, .int c, .int d] X Y (some (.int (bI (MassOK a b c d)))) X Y := by
  refine Ct.mk (by decide +kernel) (Nat.le_of_ble_eq_true rfl) rfl ?_
  intro p9 e9 s9 m9 args9 below9 meth9 c9 hE hr hlocks hK hI ls hl
  have hx := hE.1
  have hb := hE.2.1
  have hl : lv_has ls 4 [(0, .int a), (1, .int b), (2, .int c), (3, .int d)] := hl
  refine lv_iload_n hx hb dX6_areMasses_0 rfl (lv_at hl 0 rfl) ?_
  refine x_callSi hE hK hI (c_X6_isMass l G o _ _ a ) mf_X6_isMass mw_592 rfl hl.1 rfl (Nat.le_of_ble_eq_true rfl) ⟨(Nat.le_of_ble_eq_true rfl), (Nat.le_of_ble_eq_true rfl)⟩ ⟨Nat.zero_le _, Nat.zero_le _⟩ dX6_areMasses_1 (fun H locs hI => ?_)
  refine lv_if_eq (tgt := 42) hx hb dX6_areMasses_4 (by decide) (fun c1 => ?_) (fun c1 => ?_)
  · have c1 := bI_eq0.mp c1
    refine lv_iconst (v := 0) hx hb dX6_areMasses_42 (by decide) ?_
    exact x_zret hE hr hlocks hI (by decide) (rI0 (fun q => c1 (q.1))) rfl rfl dX6_areMasses_43
  · have c1 := bI_ne0.mp c1
    refine lv_iload_n hx hb dX6_areMasses_7 rfl (lv_at hl 1 rfl) ?_
    refine x_callSi hE hK hI (c_X6_isMass l G o _ _ b ) mf_X6_isMass mw_592 rfl hl.1 rfl (Nat.le_of_ble_eq_true rfl) ⟨(Nat.le_of_ble_eq_true rfl), (Nat.le_of_ble_eq_true rfl)⟩ ⟨Nat.zero_le _, Nat.zero_le _⟩ dX6_areMasses_8 (fun H locs hI => ?_)
    refine lv_if_eq (tgt := 42) hx hb dX6_areMasses_11 (by decide) (fun c2 => ?_) (fun c2 => ?_)
    · have c2 := bI_eq0.mp c2
      refine lv_iconst (v := 0) hx hb dX6_areMasses_42 (by decide) ?_
      exact x_zret hE hr hlocks hI (by decide) (rI0 (fun q => c2 (q.2.1))) rfl rfl dX6_areMasses_43
    · have c2 := bI_ne0.mp c2
      refine lv_iload_n hx hb dX6_areMasses_14 rfl (lv_at hl 2 rfl) ?_
      refine x_callSi hE hK hI (c_X6_isMass l G o _ _ c ) mf_X6_isMass mw_592 rfl hl.1 rfl (Nat.le_of_ble_eq_true rfl) ⟨(Nat.le_of_ble_eq_true rfl), (Nat.le_of_ble_eq_true rfl)⟩ ⟨Nat.zero_le _, Nat.zero_le _⟩ dX6_areMasses_15 (fun H locs hI => ?_)
      refine lv_if_eq (tgt := 42) hx hb dX6_areMasses_18 (by decide) (fun c3 => ?_) (fun c3 => ?_)
      · have c3 := bI_eq0.mp c3
        refine lv_iconst (v := 0) hx hb dX6_areMasses_42 (by decide) ?_
        exact x_zret hE hr hlocks hI (by decide) (rI0 (fun q => c3 (q.2.2.1))) rfl rfl dX6_areMasses_43
      · have c3 := bI_ne0.mp c3
        refine lv_iload_n hx hb dX6_areMasses_21 rfl (lv_at hl 3 rfl) ?_
        refine x_callSi hE hK hI (c_X6_isMass l G o _ _ d ) mf_X6_isMass mw_592 rfl hl.1 rfl (Nat.le_of_ble_eq_true rfl) ⟨(Nat.le_of_ble_eq_true rfl), (Nat.le_of_ble_eq_true rfl)⟩ ⟨Nat.zero_le _, Nat.zero_le _⟩ dX6_areMasses_22 (fun H locs hI => ?_)
        refine lv_if_eq (tgt := 42) hx hb dX6_areMasses_25 (by decide) (fun c4 => ?_) (fun c4 => ?_)
        · have c4 := bI_eq0.mp c4
          refine lv_iconst (v := 0) hx hb dX6_areMasses_42 (by decide) ?_
          exact x_zret hE hr hlocks hI (by decide) (rI0 (fun q => c4 (q.2.2.2.1))) rfl rfl dX6_areMasses_43
        · have c4 := bI_ne0.mp c4
          refine lv_iload_n hx hb dX6_areMasses_28 rfl (lv_at hl 0 rfl) ?_
          refine lv_iload_n hx hb dX6_areMasses_29 rfl (lv_at hl 1 rfl) ?_
          refine lv_iadd hx hb dX6_areMasses_30 ?_
          refine lv_iload_n hx hb dX6_areMasses_31 rfl (lv_at hl 2 rfl) ?_
          refine lv_iadd hx hb dX6_areMasses_32 ?_
          refine lv_iload_n hx hb dX6_areMasses_33 rfl (lv_at hl 3 rfl) ?_
          refine lv_iadd hx hb dX6_areMasses_34 ?_
          refine lv_if_le (tgt := 42) hx hb dX6_areMasses_35 (by decide) (fun c5 => ?_) (fun c5 => ?_)
          · refine lv_iconst (v := 0) hx hb dX6_areMasses_42 (by decide) ?_
            exact x_zret hE hr hlocks hI (by decide) (rI0 (fun q => absurd (q.2.2.2.2) (Int32.not_lt.mpr c5))) rfl rfl dX6_areMasses_43
          · refine lv_iconst (v := 1) hx hb dX6_areMasses_38 (by decide) ?_
            refine lv_goto (tgt := 43) hx hb dX6_areMasses_39 (by decide) ?_
            exact x_zret hE hr hlocks hI (by decide) (rI1 ⟨c1, c2, c3, c4, Int32.not_le.mp c5⟩) rfl rfl dX6_areMasses_43
set_option maxRecDepth 100000 in
set_option maxHeartbeats 4000000 in
theorem c_X5_isShareTo_y (l : Launch) (G : GG) (o : Nat) (X : SX) (Y : SY) (u : Int32) (v : Int32) (h : Wi u 0 3) : Ct l yX5_isShareTo cX5_isShareTo 2 (some .boolean) 2 42 G o [.int u, .int v] X Y (some (.int (bI (Wi v 0 10)))) X Y := by
  refine Ct.mk (by decide +kernel) (Nat.le_of_ble_eq_true rfl) rfl ?_
  intro p9 e9 s9 m9 args9 below9 meth9 c9 hE hr hlocks hK hI ls hl
  have hx := hE.1
  have hb := hE.2.1
  have hl : lv_has ls 2 [(0, .int u), (1, .int v)] := hl
  refine lv_iload_n hx hb dX5_isShareTo_0 rfl (lv_at hl 1 rfl) ?_
  refine lv_iconst (v := 0) hx hb dX5_isShareTo_1 (by decide) ?_
  refine lv_iload_n hx hb dX5_isShareTo_2 rfl (lv_at hl 0 rfl) ?_
  refine x_callSi hE hK hI (c_X5_isSize l G o _ _ u ) mf_X5_isSize mw_189 rfl hl.1 rfl (Nat.le_of_ble_eq_true rfl) ⟨(Nat.le_of_ble_eq_true rfl), (Nat.le_of_ble_eq_true rfl)⟩ ⟨Nat.zero_le _, Nat.zero_le _⟩ dX5_isShareTo_3 (fun H locs hI => ?_)
  refine lv_topi (fun z1 ez1 => ?_)
  obtain rfl : 1 = z1 := (ez1.trans (bI_t h)).symm
  refine lv_if_eq (tgt := 14) hx hb dX5_isShareTo_6 (by decide) (fun q => absurd q (by decide)) (fun _ => ?_)
  refine lv_bipush (v := 10) hx hb dX5_isShareTo_9 (by decide) ?_
  refine lv_goto (tgt := 15) hx hb dX5_isShareTo_11 (by decide) ?_
  refine x_callSi hE hK hI (c_X5_isWithin l G o _ _ v 0 10 ) mf_X5_isWithin mw_192 rfl hl.1 rfl (Nat.le_of_ble_eq_true rfl) ⟨(Nat.le_of_ble_eq_true rfl), (Nat.le_of_ble_eq_true rfl)⟩ ⟨Nat.zero_le _, Nat.zero_le _⟩ dX5_isShareTo_15 (fun H locs hI => ?_)
  exact x_zret hE hr hlocks hI bI_01 rfl rfl rfl dX5_isShareTo_18
set_option maxRecDepth 100000 in
set_option maxHeartbeats 4000000 in
theorem c_X5_isShareTo_n (l : Launch) (G : GG) (o : Nat) (X : SX) (Y : SY) (u : Int32) (v : Int32) (h : ¬ Wi u 0 3) : Ct l yX5_isShareTo cX5_isShareTo 2 (some .boolean) 2 42 G o [.int u, .int v] X Y (some (.int (bI (Wi v 0 0)))) X Y := by
  refine Ct.mk (by decide +kernel) (Nat.le_of_ble_eq_true rfl) rfl ?_
  intro p9 e9 s9 m9 args9 below9 meth9 c9 hE hr hlocks hK hI ls hl
  have hx := hE.1
  have hb := hE.2.1
  have hl : lv_has ls 2 [(0, .int u), (1, .int v)] := hl
  refine lv_iload_n hx hb dX5_isShareTo_0 rfl (lv_at hl 1 rfl) ?_
  refine lv_iconst (v := 0) hx hb dX5_isShareTo_1 (by decide) ?_
  refine lv_iload_n hx hb dX5_isShareTo_2 rfl (lv_at hl 0 rfl) ?_
  refine x_callSi hE hK hI (c_X5_isSize l G o _ _ u ) mf_X5_isSize mw_189 rfl hl.1 rfl (Nat.le_of_ble_eq_true rfl) ⟨(Nat.le_of_ble_eq_true rfl), (Nat.le_of_ble_eq_true rfl)⟩ ⟨Nat.zero_le _, Nat.zero_le _⟩ dX5_isShareTo_3 (fun H locs hI => ?_)
  refine lv_topi (fun z1 ez1 => ?_)
  obtain rfl : 0 = z1 := (ez1.trans (bI_f h)).symm
  refine lv_if_eq (tgt := 14) hx hb dX5_isShareTo_6 (by decide) (fun _ => ?_) (fun q => absurd (by decide) q)
  refine lv_iconst (v := 0) hx hb dX5_isShareTo_14 (by decide) ?_
  refine x_callSi hE hK hI (c_X5_isWithin l G o _ _ v 0 0 ) mf_X5_isWithin mw_192 rfl hl.1 rfl (Nat.le_of_ble_eq_true rfl) ⟨(Nat.le_of_ble_eq_true rfl), (Nat.le_of_ble_eq_true rfl)⟩ ⟨Nat.zero_le _, Nat.zero_le _⟩ dX5_isShareTo_15 (fun H locs hI => ?_)
  exact x_zret hE hr hlocks hI bI_01 rfl rfl rfl dX5_isShareTo_18
set_option maxRecDepth 100000 in
set_option maxHeartbeats 4000000 in
theorem c_X5_sum (l : Launch) (G : GG) (o : Nat) (X : SX) (Y : SY) (k : Nat) (h1 : ∀ (f : Nat → Int32) (g : Nat → Int64), shp G o k f g = .inl (G.2 0, 4, .inl f)) (h2 : k < 292) : Ct l yX5_sum cX5_sum 6 (some .int) 0 0 G o [.ref (o + k)] X Y (some (.int (sum4 (X k)))) X Y := by
  refine Ct.mk (by decide +kernel) (Nat.le_of_ble_eq_true rfl) rfl ?_
  intro p9 e9 s9 m9 args9 below9 meth9 c9 hE hr hlocks hK hI ls hl
  have hx := hE.1
  have hb := hE.2.1
  have hl : lv_has ls 6 [(0, .ref (o + k))] := hl
  refine lv_iconst (v := 0) hx hb dX5_sum_0 (by decide) ?_
  refine lv_istore_n (lv' := [(1, .int 0), (0, .ref (o + k))]) hx hb dX5_sum_1 rfl hl (by decide) rfl (fun ls hl => ?_)
  refine lv_aload_n hx hb dX5_sum_2 rfl (lv_at hl 1 rfl) ?_
  refine lv_astore_n (lv' := [(2, .ref (o + k)), (1, .int 0), (0, .ref (o + k))]) hx hb dX5_sum_3 rfl hl (by decide) rfl (fun ls hl => ?_)
  refine lv_aload_n hx hb dX5_sum_4 rfl (lv_at hl 0 rfl) ?_
  refine x_alen (k := k) (t0 := 0) (v := 4) hE hK hI h2 (h1 _ _) rfl rfl dX5_sum_5 ?_
  refine lv_istore_n (lv' := [(3, .int 4), (2, .ref (o + k)), (1, .int 0), (0, .ref (o + k))]) hx hb dX5_sum_6 rfl hl (by decide) rfl (fun ls hl => ?_)
  refine lv_iconst (v := 0) hx hb dX5_sum_7 (by decide) ?_
  refine lv_istore (lv' := [(4, .int 0), (3, .int 4), (2, .ref (o + k)), (1, .int 0), (0, .ref (o + k))]) hx hb dX5_sum_8 hl (by decide) rfl (fun ls hl => ?_)
  refine lv_iload hx hb dX5_sum_10 (lv_at hl 0 rfl) ?_
  refine lv_iload_n hx hb dX5_sum_12 rfl (lv_at hl 1 rfl) ?_
  refine lv_icmp_ge (tgt := 33) hx hb dX5_sum_13 (by decide) (fun q => absurd q (by decide)) (fun _ => ?_)
  refine lv_aload_n hx hb dX5_sum_16 rfl (lv_at hl 2 rfl) ?_
  refine lv_iload hx hb dX5_sum_17 (lv_at hl 0 rfl) ?_
  refine x_iald (k := k) (j := 0) hE hK hI h2 h1 (by decide) (by decide) rfl dX5_sum_19 ?_
  refine lv_istore (lv' := [(5, .int (X k 0)), (4, .int 0), (3, .int 4), (2, .ref (o + k)), (1, .int 0), (0, .ref (o + k))]) hx hb dX5_sum_20 hl (by decide) rfl (fun ls hl => ?_)
  refine lv_iload_n hx hb dX5_sum_22 rfl (lv_at hl 4 rfl) ?_
  refine lv_iload hx hb dX5_sum_23 (lv_at hl 0 rfl) ?_
  refine lv_iadd hx hb dX5_sum_25 ?_
  refine lv_istore_n (lv' := [(1, .int (0 + (X k 0))), (5, .int (X k 0)), (4, .int 0), (3, .int 4), (2, .ref (o + k)), (0, .ref (o + k))]) hx hb dX5_sum_26 rfl hl (by decide) rfl (fun ls hl => ?_)
  refine lv_iinc (v := 1) (lv' := [(4, .int 1), (1, .int (0 + (X k 0))), (5, .int (X k 0)), (3, .int 4), (2, .ref (o + k)), (0, .ref (o + k))]) hx hb dX5_sum_27 hl (k := 2) rfl (by decide) (by decide) rfl (fun ls hl => ?_)
  refine lv_goto (tgt := 10) hx hb dX5_sum_30 (by decide) ?_
  refine lv_iload hx hb dX5_sum_10 (lv_at hl 0 rfl) ?_
  refine lv_iload_n hx hb dX5_sum_12 rfl (lv_at hl 3 rfl) ?_
  refine lv_icmp_ge (tgt := 33) hx hb dX5_sum_13 (by decide) (fun q => absurd q (by decide)) (fun _ => ?_)
  refine lv_aload_n hx hb dX5_sum_16 rfl (lv_at hl 4 rfl) ?_
  refine lv_iload hx hb dX5_sum_17 (lv_at hl 0 rfl) ?_
  refine x_iald (k := k) (j := 1) hE hK hI h2 h1 (by decide) (by decide) rfl dX5_sum_19 ?_
  refine lv_istore (lv' := [(5, .int (X k 1)), (4, .int 1), (1, .int (0 + (X k 0))), (3, .int 4), (2, .ref (o + k)), (0, .ref (o + k))]) hx hb dX5_sum_20 hl (by decide) rfl (fun ls hl => ?_)
  refine lv_iload_n hx hb dX5_sum_22 rfl (lv_at hl 2 rfl) ?_
  refine lv_iload hx hb dX5_sum_23 (lv_at hl 0 rfl) ?_
  refine lv_iadd hx hb dX5_sum_25 ?_
  refine lv_istore_n (lv' := [(1, .int ((0 + (X k 0)) + (X k 1))), (5, .int (X k 1)), (4, .int 1), (3, .int 4), (2, .ref (o + k)), (0, .ref (o + k))]) hx hb dX5_sum_26 rfl hl (by decide) rfl (fun ls hl => ?_)
  refine lv_iinc (v := 2) (lv' := [(4, .int 2), (1, .int ((0 + (X k 0)) + (X k 1))), (5, .int (X k 1)), (3, .int 4), (2, .ref (o + k)), (0, .ref (o + k))]) hx hb dX5_sum_27 hl (k := 2) rfl (by decide) (by decide) rfl (fun ls hl => ?_)
  refine lv_goto (tgt := 10) hx hb dX5_sum_30 (by decide) ?_
  refine lv_iload hx hb dX5_sum_10 (lv_at hl 0 rfl) ?_
  refine lv_iload_n hx hb dX5_sum_12 rfl (lv_at hl 3 rfl) ?_
  refine lv_icmp_ge (tgt := 33) hx hb dX5_sum_13 (by decide) (fun q => absurd q (by decide)) (fun _ => ?_)
  refine lv_aload_n hx hb dX5_sum_16 rfl (lv_at hl 4 rfl) ?_
  refine lv_iload hx hb dX5_sum_17 (lv_at hl 0 rfl) ?_
  refine x_iald (k := k) (j := 2) hE hK hI h2 h1 (by decide) (by decide) rfl dX5_sum_19 ?_
  refine lv_istore (lv' := [(5, .int (X k 2)), (4, .int 2), (1, .int ((0 + (X k 0)) + (X k 1))), (3, .int 4), (2, .ref (o + k)), (0, .ref (o + k))]) hx hb dX5_sum_20 hl (by decide) rfl (fun ls hl => ?_)
  refine lv_iload_n hx hb dX5_sum_22 rfl (lv_at hl 2 rfl) ?_
  refine lv_iload hx hb dX5_sum_23 (lv_at hl 0 rfl) ?_
  refine lv_iadd hx hb dX5_sum_25 ?_
  refine lv_istore_n (lv' := [(1, .int (((0 + (X k 0)) + (X k 1)) + (X k 2))), (5, .int (X k 2)), (4, .int 2), (3, .int 4), (2, .ref (o + k)), (0, .ref (o + k))]) hx hb dX5_sum_26 rfl hl (by decide) rfl (fun ls hl => ?_)
  refine lv_iinc (v := 3) (lv' := [(4, .int 3), (1, .int (((0 + (X k 0)) + (X k 1)) + (X k 2))), (5, .int (X k 2)), (3, .int 4), (2, .ref (o + k)), (0, .ref (o + k))]) hx hb dX5_sum_27 hl (k := 2) rfl (by decide) (by decide) rfl (fun ls hl => ?_)
  refine lv_goto (tgt := 10) hx hb dX5_sum_30 (by decide) ?_
  refine lv_iload hx hb dX5_sum_10 (lv_at hl 0 rfl) ?_
  refine lv_iload_n hx hb dX5_sum_12 rfl (lv_at hl 3 rfl) ?_
  refine lv_icmp_ge (tgt := 33) hx hb dX5_sum_13 (by decide) (fun q => absurd q (by decide)) (fun _ => ?_)
  refine lv_aload_n hx hb dX5_sum_16 rfl (lv_at hl 4 rfl) ?_
  refine lv_iload hx hb dX5_sum_17 (lv_at hl 0 rfl) ?_
  refine x_iald (k := k) (j := 3) hE hK hI h2 h1 (by decide) (by decide) rfl dX5_sum_19 ?_
  refine lv_istore (lv' := [(5, .int (X k 3)), (4, .int 3), (1, .int (((0 + (X k 0)) + (X k 1)) + (X k 2))), (3, .int 4), (2, .ref (o + k)), (0, .ref (o + k))]) hx hb dX5_sum_20 hl (by decide) rfl (fun ls hl => ?_)
  refine lv_iload_n hx hb dX5_sum_22 rfl (lv_at hl 2 rfl) ?_
  refine lv_iload hx hb dX5_sum_23 (lv_at hl 0 rfl) ?_
  refine lv_iadd hx hb dX5_sum_25 ?_
  refine lv_istore_n (lv' := [(1, .int ((((0 + (X k 0)) + (X k 1)) + (X k 2)) + (X k 3))), (5, .int (X k 3)), (4, .int 3), (3, .int 4), (2, .ref (o + k)), (0, .ref (o + k))]) hx hb dX5_sum_26 rfl hl (by decide) rfl (fun ls hl => ?_)
  refine lv_iinc (v := 4) (lv' := [(4, .int 4), (1, .int ((((0 + (X k 0)) + (X k 1)) + (X k 2)) + (X k 3))), (5, .int (X k 3)), (3, .int 4), (2, .ref (o + k)), (0, .ref (o + k))]) hx hb dX5_sum_27 hl (k := 2) rfl (by decide) (by decide) rfl (fun ls hl => ?_)
  refine lv_goto (tgt := 10) hx hb dX5_sum_30 (by decide) ?_
  refine lv_iload hx hb dX5_sum_10 (lv_at hl 0 rfl) ?_
  refine lv_iload_n hx hb dX5_sum_12 rfl (lv_at hl 3 rfl) ?_
  refine lv_icmp_ge (tgt := 33) hx hb dX5_sum_13 (by decide) (fun _ => ?_) (fun q => absurd (by decide) q)
  refine lv_iload_n hx hb dX5_sum_33 rfl (lv_at hl 1 rfl) ?_
  exact x_iret hE hr hlocks hI rfl rfl rfl dX5_sum_34
end
section
/-! ===== 06: lots ===== -/
/-- by how much one lot is coarser than another -/
def crs (m m' : Nat → Int32) : Int32 := if m 0 = m' 0 then (if m 1 = m' 1 then (if m 2 = m' 2 then (if m 3 = m' 3 then 0 else m 3 - m' 3) else m 2 - m' 2) else m 1 - m' 1) else m 0 - m' 0
def dif (rule : Int32) (m m' : Nat → Int32) : Int32 := if rule = 1 then sum4 m - sum4 m' else if rule = 2 then crs m m' else 0
/-- a lot stands before another, by the rule, the masses and the arrivals -/
abbrev bef (rule : Int32) (m : Nat → Int32) (a : Int32) (m' : Nat → Int32) (a' : Int32) : Prop := if dif rule m m' = 0 then a < a' else 0 < dif rule m m'
def engy (w m : Nat → Int32) : Int32 := 0 + w 0 * m 0 + w 1 * m 1 + w 2 * m 2 + w 3 * m 3
set_option maxRecDepth 100000 in
set_option maxHeartbeats 4000000 in
theorem c_X0_coarserBy (l : Launch) (G : GG) (o : Nat) (X : SX) (Y : SY) (i : Nat) (j : Nat) (h_i : i < 40) (h_j : j < 40) : Ct l yX0_coarserBy cX0_coarserBy 3 (some .int) 0 0 G o [.ref (o + (14 + 2 * i)), .ref (o + (14 + 2 * j))] X Y (some (.int (crs (X (15 + 2 * i)) (X (15 + 2 * j))))) X Y := by
  refine Ct.mk (by decide +kernel) (Nat.le_of_ble_eq_true rfl) rfl ?_
  intro p9 e9 s9 m9 args9 below9 meth9 c9 hE hr hlocks hK hI ls hl
  have hx := hE.1
  have hb := hE.2.1
  have hl : lv_has ls 3 [(0, .ref (o + (14 + 2 * i))), (1, .ref (o + (14 + 2 * j)))] := hl
  refine lv_iconst (v := 0) hx hb dX0_coarserBy_0 (by decide) ?_
  refine lv_istore_n (lv' := [(2, .int 0), (0, .ref (o + (14 + 2 * i))), (1, .ref (o + (14 + 2 * j)))]) hx hb dX0_coarserBy_1 rfl hl (by decide) rfl (fun ls hl => ?_)
  refine lv_iload_n hx hb dX0_coarserBy_2 rfl (lv_at hl 0 rfl) ?_
  refine lv_iconst (v := 4) hx hb dX0_coarserBy_3 (by decide) ?_
  refine lv_icmp_ge (tgt := 42) hx hb dX0_coarserBy_4 (by decide) (fun q => absurd q (by decide)) (fun _ => ?_)
  refine lv_aload_n hx hb dX0_coarserBy_7 rfl (lv_at hl 1 rfl) ?_
  refine x_get (k := (14 + 2 * i)) hE hK hI (by have := h_i; omega) inG0 (el_14 G o h_i _ _) rfl 0 (by decide) mw_78 rfl dX0_coarserBy_8 ?_
  refine lv_iload_n hx hb dX0_coarserBy_11 rfl (lv_at hl 0 rfl) ?_
  refine x_iald (k := (15 + 2 * i)) (j := 0) hE hK hI (by have := h_i; omega) (em_14 G o h_i) (by decide) (by decide) rfl dX0_coarserBy_12 ?_
  refine lv_aload_n hx hb dX0_coarserBy_13 rfl (lv_at hl 2 rfl) ?_
  refine x_get (k := (14 + 2 * j)) hE hK hI (by have := h_j; omega) inG0 (el_14 G o h_j _ _) rfl 0 (by decide) mw_78 rfl dX0_coarserBy_14 ?_
  refine lv_iload_n hx hb dX0_coarserBy_17 rfl (lv_at hl 0 rfl) ?_
  refine x_iald (k := (15 + 2 * j)) (j := 0) hE hK hI (by have := h_j; omega) (em_14 G o h_j) (by decide) (by decide) rfl dX0_coarserBy_18 ?_
  refine lv_icmp_eq (tgt := 36) hx hb dX0_coarserBy_19 (by decide) (fun c1 => ?_) (fun c1 => ?_)
  · refine lv_iinc (v := 1) (lv' := [(2, .int 1), (0, .ref (o + (14 + 2 * i))), (1, .ref (o + (14 + 2 * j)))]) hx hb dX0_coarserBy_36 hl (k := 0) rfl (by decide) (by decide) rfl (fun ls hl => ?_)
    refine lv_goto (tgt := 2) hx hb dX0_coarserBy_39 (by decide) ?_
    refine lv_iload_n hx hb dX0_coarserBy_2 rfl (lv_at hl 0 rfl) ?_
    refine lv_iconst (v := 4) hx hb dX0_coarserBy_3 (by decide) ?_
    refine lv_icmp_ge (tgt := 42) hx hb dX0_coarserBy_4 (by decide) (fun q => absurd q (by decide)) (fun _ => ?_)
    refine lv_aload_n hx hb dX0_coarserBy_7 rfl (lv_at hl 1 rfl) ?_
    refine x_get (k := (14 + 2 * i)) hE hK hI (by have := h_i; omega) inG0 (el_14 G o h_i _ _) rfl 0 (by decide) mw_78 rfl dX0_coarserBy_8 ?_
    refine lv_iload_n hx hb dX0_coarserBy_11 rfl (lv_at hl 0 rfl) ?_
    refine x_iald (k := (15 + 2 * i)) (j := 1) hE hK hI (by have := h_i; omega) (em_14 G o h_i) (by decide) (by decide) rfl dX0_coarserBy_12 ?_
    refine lv_aload_n hx hb dX0_coarserBy_13 rfl (lv_at hl 2 rfl) ?_
    refine x_get (k := (14 + 2 * j)) hE hK hI (by have := h_j; omega) inG0 (el_14 G o h_j _ _) rfl 0 (by decide) mw_78 rfl dX0_coarserBy_14 ?_
    refine lv_iload_n hx hb dX0_coarserBy_17 rfl (lv_at hl 0 rfl) ?_
    refine x_iald (k := (15 + 2 * j)) (j := 1) hE hK hI (by have := h_j; omega) (em_14 G o h_j) (by decide) (by decide) rfl dX0_coarserBy_18 ?_
    refine lv_icmp_eq (tgt := 36) hx hb dX0_coarserBy_19 (by decide) (fun c2 => ?_) (fun c2 => ?_)
    · refine lv_iinc (v := 2) (lv' := [(2, .int 2), (0, .ref (o + (14 + 2 * i))), (1, .ref (o + (14 + 2 * j)))]) hx hb dX0_coarserBy_36 hl (k := 0) rfl (by decide) (by decide) rfl (fun ls hl => ?_)
      refine lv_goto (tgt := 2) hx hb dX0_coarserBy_39 (by decide) ?_
      refine lv_iload_n hx hb dX0_coarserBy_2 rfl (lv_at hl 0 rfl) ?_
      refine lv_iconst (v := 4) hx hb dX0_coarserBy_3 (by decide) ?_
      refine lv_icmp_ge (tgt := 42) hx hb dX0_coarserBy_4 (by decide) (fun q => absurd q (by decide)) (fun _ => ?_)
      refine lv_aload_n hx hb dX0_coarserBy_7 rfl (lv_at hl 1 rfl) ?_
      refine x_get (k := (14 + 2 * i)) hE hK hI (by have := h_i; omega) inG0 (el_14 G o h_i _ _) rfl 0 (by decide) mw_78 rfl dX0_coarserBy_8 ?_
      refine lv_iload_n hx hb dX0_coarserBy_11 rfl (lv_at hl 0 rfl) ?_
      refine x_iald (k := (15 + 2 * i)) (j := 2) hE hK hI (by have := h_i; omega) (em_14 G o h_i) (by decide) (by decide) rfl dX0_coarserBy_12 ?_
      refine lv_aload_n hx hb dX0_coarserBy_13 rfl (lv_at hl 2 rfl) ?_
      refine x_get (k := (14 + 2 * j)) hE hK hI (by have := h_j; omega) inG0 (el_14 G o h_j _ _) rfl 0 (by decide) mw_78 rfl dX0_coarserBy_14 ?_
      refine lv_iload_n hx hb dX0_coarserBy_17 rfl (lv_at hl 0 rfl) ?_
      refine x_iald (k := (15 + 2 * j)) (j := 2) hE hK hI (by have := h_j; omega) (em_14 G o h_j) (by decide) (by decide) rfl dX0_coarserBy_18 ?_
      refine lv_icmp_eq (tgt := 36) hx hb dX0_coarserBy_19 (by decide) (fun c3 => ?_) (fun c3 => ?_)
      · refine lv_iinc (v := 3) (lv' := [(2, .int 3), (0, .ref (o + (14 + 2 * i))), (1, .ref (o + (14 + 2 * j)))]) hx hb dX0_coarserBy_36 hl (k := 0) rfl (by decide) (by decide) rfl (fun ls hl => ?_)
        refine lv_goto (tgt := 2) hx hb dX0_coarserBy_39 (by decide) ?_
        refine lv_iload_n hx hb dX0_coarserBy_2 rfl (lv_at hl 0 rfl) ?_
        refine lv_iconst (v := 4) hx hb dX0_coarserBy_3 (by decide) ?_
        refine lv_icmp_ge (tgt := 42) hx hb dX0_coarserBy_4 (by decide) (fun q => absurd q (by decide)) (fun _ => ?_)
        refine lv_aload_n hx hb dX0_coarserBy_7 rfl (lv_at hl 1 rfl) ?_
        refine x_get (k := (14 + 2 * i)) hE hK hI (by have := h_i; omega) inG0 (el_14 G o h_i _ _) rfl 0 (by decide) mw_78 rfl dX0_coarserBy_8 ?_
        refine lv_iload_n hx hb dX0_coarserBy_11 rfl (lv_at hl 0 rfl) ?_
        refine x_iald (k := (15 + 2 * i)) (j := 3) hE hK hI (by have := h_i; omega) (em_14 G o h_i) (by decide) (by decide) rfl dX0_coarserBy_12 ?_
        refine lv_aload_n hx hb dX0_coarserBy_13 rfl (lv_at hl 2 rfl) ?_
        refine x_get (k := (14 + 2 * j)) hE hK hI (by have := h_j; omega) inG0 (el_14 G o h_j _ _) rfl 0 (by decide) mw_78 rfl dX0_coarserBy_14 ?_
        refine lv_iload_n hx hb dX0_coarserBy_17 rfl (lv_at hl 0 rfl) ?_
        refine x_iald (k := (15 + 2 * j)) (j := 3) hE hK hI (by have := h_j; omega) (em_14 G o h_j) (by decide) (by decide) rfl dX0_coarserBy_18 ?_
        refine lv_icmp_eq (tgt := 36) hx hb dX0_coarserBy_19 (by decide) (fun c4 => ?_) (fun c4 => ?_)
        · refine lv_iinc (v := 4) (lv' := [(2, .int 4), (0, .ref (o + (14 + 2 * i))), (1, .ref (o + (14 + 2 * j)))]) hx hb dX0_coarserBy_36 hl (k := 0) rfl (by decide) (by decide) rfl (fun ls hl => ?_)
          refine lv_goto (tgt := 2) hx hb dX0_coarserBy_39 (by decide) ?_
          refine lv_iload_n hx hb dX0_coarserBy_2 rfl (lv_at hl 0 rfl) ?_
          refine lv_iconst (v := 4) hx hb dX0_coarserBy_3 (by decide) ?_
          refine lv_icmp_ge (tgt := 42) hx hb dX0_coarserBy_4 (by decide) (fun _ => ?_) (fun q => absurd (by decide) q)
          refine lv_iconst (v := 0) hx hb dX0_coarserBy_42 (by decide) ?_
          exact x_iret hE hr hlocks hI (congrArg (fun q => some (Value.int q)) ((if_pos c1).trans ((if_pos c2).trans ((if_pos c3).trans (if_pos c4))))) rfl rfl dX0_coarserBy_43
        · refine lv_aload_n hx hb dX0_coarserBy_22 rfl (lv_at hl 1 rfl) ?_
          refine x_get (k := (14 + 2 * i)) hE hK hI (by have := h_i; omega) inG0 (el_14 G o h_i _ _) rfl 0 (by decide) mw_78 rfl dX0_coarserBy_23 ?_
          refine lv_iload_n hx hb dX0_coarserBy_26 rfl (lv_at hl 0 rfl) ?_
          refine x_iald (k := (15 + 2 * i)) (j := 3) hE hK hI (by have := h_i; omega) (em_14 G o h_i) (by decide) (by decide) rfl dX0_coarserBy_27 ?_
          refine lv_aload_n hx hb dX0_coarserBy_28 rfl (lv_at hl 2 rfl) ?_
          refine x_get (k := (14 + 2 * j)) hE hK hI (by have := h_j; omega) inG0 (el_14 G o h_j _ _) rfl 0 (by decide) mw_78 rfl dX0_coarserBy_29 ?_
          refine lv_iload_n hx hb dX0_coarserBy_32 rfl (lv_at hl 0 rfl) ?_
          refine x_iald (k := (15 + 2 * j)) (j := 3) hE hK hI (by have := h_j; omega) (em_14 G o h_j) (by decide) (by decide) rfl dX0_coarserBy_33 ?_
          refine lv_isub hx hb dX0_coarserBy_34 ?_
          exact x_iret hE hr hlocks hI (congrArg (fun q => some (Value.int q)) ((if_pos c1).trans ((if_pos c2).trans ((if_pos c3).trans (if_neg c4))))) rfl rfl dX0_coarserBy_35
      · refine lv_aload_n hx hb dX0_coarserBy_22 rfl (lv_at hl 1 rfl) ?_
        refine x_get (k := (14 + 2 * i)) hE hK hI (by have := h_i; omega) inG0 (el_14 G o h_i _ _) rfl 0 (by decide) mw_78 rfl dX0_coarserBy_23 ?_
        refine lv_iload_n hx hb dX0_coarserBy_26 rfl (lv_at hl 0 rfl) ?_
        refine x_iald (k := (15 + 2 * i)) (j := 2) hE hK hI (by have := h_i; omega) (em_14 G o h_i) (by decide) (by decide) rfl dX0_coarserBy_27 ?_
        refine lv_aload_n hx hb dX0_coarserBy_28 rfl (lv_at hl 2 rfl) ?_
        refine x_get (k := (14 + 2 * j)) hE hK hI (by have := h_j; omega) inG0 (el_14 G o h_j _ _) rfl 0 (by decide) mw_78 rfl dX0_coarserBy_29 ?_
        refine lv_iload_n hx hb dX0_coarserBy_32 rfl (lv_at hl 0 rfl) ?_
        refine x_iald (k := (15 + 2 * j)) (j := 2) hE hK hI (by have := h_j; omega) (em_14 G o h_j) (by decide) (by decide) rfl dX0_coarserBy_33 ?_
        refine lv_isub hx hb dX0_coarserBy_34 ?_
        exact x_iret hE hr hlocks hI (congrArg (fun q => some (Value.int q)) ((if_pos c1).trans ((if_pos c2).trans (if_neg c3)))) rfl rfl dX0_coarserBy_35
    · refine lv_aload_n hx hb dX0_coarserBy_22 rfl (lv_at hl 1 rfl) ?_
      refine x_get (k := (14 + 2 * i)) hE hK hI (by have := h_i; omega) inG0 (el_14 G o h_i _ _) rfl 0 (by decide) mw_78 rfl dX0_coarserBy_23 ?_
      refine lv_iload_n hx hb dX0_coarserBy_26 rfl (lv_at hl 0 rfl) ?_
      refine x_iald (k := (15 + 2 * i)) (j := 1) hE hK hI (by have := h_i; omega) (em_14 G o h_i) (by decide) (by decide) rfl dX0_coarserBy_27 ?_
      refine lv_aload_n hx hb dX0_coarserBy_28 rfl (lv_at hl 2 rfl) ?_
      refine x_get (k := (14 + 2 * j)) hE hK hI (by have := h_j; omega) inG0 (el_14 G o h_j _ _) rfl 0 (by decide) mw_78 rfl dX0_coarserBy_29 ?_
      refine lv_iload_n hx hb dX0_coarserBy_32 rfl (lv_at hl 0 rfl) ?_
      refine x_iald (k := (15 + 2 * j)) (j := 1) hE hK hI (by have := h_j; omega) (em_14 G o h_j) (by decide) (by decide) rfl dX0_coarserBy_33 ?_
      refine lv_isub hx hb dX0_coarserBy_34 ?_
      exact x_iret hE hr hlocks hI (congrArg (fun q => some (Value.int q)) ((if_pos c1).trans (if_neg c2))) rfl rfl dX0_coarserBy_35
  · refine lv_aload_n hx hb dX0_coarserBy_22 rfl (lv_at hl 1 rfl) ?_
    refine x_get (k := (14 + 2 * i)) hE hK hI (by have := h_i; omega) inG0 (el_14 G o h_i _ _) rfl 0 (by decide) mw_78 rfl dX0_coarserBy_23 ?_
    refine lv_iload_n hx hb dX0_coarserBy_26 rfl (lv_at hl 0 rfl) ?_
    refine x_iald (k := (15 + 2 * i)) (j := 0) hE hK hI (by have := h_i; omega) (em_14 G o h_i) (by decide) (by decide) rfl dX0_coarserBy_27 ?_
    refine lv_aload_n hx hb dX0_coarserBy_28 rfl (lv_at hl 2 rfl) ?_
    refine x_get (k := (14 + 2 * j)) hE hK hI (by have := h_j; omega) inG0 (el_14 G o h_j _ _) rfl 0 (by decide) mw_78 rfl dX0_coarserBy_29 ?_
    refine lv_iload_n hx hb dX0_coarserBy_32 rfl (lv_at hl 0 rfl) ?_
    refine x_iald (k := (15 + 2 * j)) (j := 0) hE hK hI (by have := h_j; omega) (em_14 G o h_j) (by decide) (by decide) rfl dX0_coarserBy_33 ?_
    refine lv_isub hx hb dX0_coarserBy_34 ?_
    exact x_iret hE hr hlocks hI (congrArg (fun q => some (Value.int q)) (if_neg c1)) rfl rfl dX0_coarserBy_35
set_option maxRecDepth 100000 in
set_option maxHeartbeats 4000000 in
theorem c_X0_standsBefore (l : Launch) (G : GG) (o : Nat) (X : SX) (Y : SY) (i : Nat) (j : Nat) (r : Int32) (h_i : i < 40) (h_j : j < 40) : Ct l yX0_standsBefore cX0_standsBefore 4 (some .boolean) 1 25 G o [.ref (o + (14 + 2 * i)), .ref (o + (14 + 2 * j)), .int r] X Y (some (.int (bI (bef r (X (15 + 2 * i)) (X (14 + 2 * i) 3) (X (15 + 2 * j)) (X (14 + 2 * j) 3))))) X Y := by
  refine Ct.mk (by decide +kernel) (Nat.le_of_ble_eq_true rfl) rfl ?_
  intro p9 e9 s9 m9 args9 below9 meth9 c9 hE hr hlocks hK hI ls hl
  have hx := hE.1
  have hb := hE.2.1
  have hl : lv_has ls 4 [(0, .ref (o + (14 + 2 * i))), (1, .ref (o + (14 + 2 * j))), (2, .int r)] := hl
  refine lv_iconst (v := 0) hx hb dX0_standsBefore_0 (by decide) ?_
  refine lv_istore_n (lv' := [(3, .int 0), (0, .ref (o + (14 + 2 * i))), (1, .ref (o + (14 + 2 * j))), (2, .int r)]) hx hb dX0_standsBefore_1 rfl hl (by decide) rfl (fun ls hl => ?_)
  refine lv_iload_n hx hb dX0_standsBefore_2 rfl (lv_at hl 3 rfl) ?_
  refine lv_iconst (v := 1) hx hb dX0_standsBefore_3 (by decide) ?_
  refine lv_icmp_ne (tgt := 26) hx hb dX0_standsBefore_4 (by decide) (fun c1 => ?_) (fun c1 => ?_)
  · refine lv_iload_n hx hb dX0_standsBefore_26 rfl (lv_at hl 3 rfl) ?_
    refine lv_iconst (v := 2) hx hb dX0_standsBefore_27 (by decide) ?_
    refine lv_icmp_ne (tgt := 37) hx hb dX0_standsBefore_28 (by decide) (fun c2 => ?_) (fun c2 => ?_)
    · refine lv_iload_n hx hb dX0_standsBefore_37 rfl (lv_at hl 0 rfl) ?_
      refine lv_if_ne (tgt := 60) hx hb dX0_standsBefore_38 (by decide) (fun q => absurd (by decide) q) (fun _ => ?_)
      refine lv_aload_n hx hb dX0_standsBefore_41 rfl (lv_at hl 1 rfl) ?_
      refine x_get (k := (14 + 2 * i)) hE hK hI (by have := h_i; omega) inG0 (el_14 G o h_i _ _) rfl 3 (by decide) mw_86 rfl dX0_standsBefore_42 ?_
      refine lv_aload_n hx hb dX0_standsBefore_45 rfl (lv_at hl 2 rfl) ?_
      refine x_get (k := (14 + 2 * j)) hE hK hI (by have := h_j; omega) inG0 (el_14 G o h_j _ _) rfl 3 (by decide) mw_86 rfl dX0_standsBefore_46 ?_
      refine lv_icmp_ge (tgt := 56) hx hb dX0_standsBefore_49 (by decide) (fun c3 => ?_) (fun c3 => ?_)
      · refine lv_iconst (v := 0) hx hb dX0_standsBefore_56 (by decide) ?_
        refine lv_goto (tgt := 69) hx hb dX0_standsBefore_57 (by decide) ?_
        exact x_zret hE hr hlocks hI (by decide) (rI0 (by have hd : dif r (X (15 + 2 * i)) (X (15 + 2 * j)) = _ := ((if_neg c1).trans (if_neg c2)); unfold bef; rw [hd]; simp [Int32.not_lt.mpr c3])) rfl rfl dX0_standsBefore_69
      · refine lv_iconst (v := 1) hx hb dX0_standsBefore_52 (by decide) ?_
        refine lv_goto (tgt := 69) hx hb dX0_standsBefore_53 (by decide) ?_
        exact x_zret hE hr hlocks hI (by decide) (rI1 (by have hd : dif r (X (15 + 2 * i)) (X (15 + 2 * j)) = _ := ((if_neg c1).trans (if_neg c2)); unfold bef; rw [hd]; simp [Int32.not_le.mp c3])) rfl rfl dX0_standsBefore_69
    · refine lv_aload_n hx hb dX0_standsBefore_31 rfl (lv_at hl 1 rfl) ?_
      refine lv_aload_n hx hb dX0_standsBefore_32 rfl (lv_at hl 2 rfl) ?_
      refine x_callVi (k := (14 + 2 * i)) hE hK hI (c_X0_coarserBy l G o _ _ i j h_i h_j) mf_X0_coarserBy mw_329 (by have := h_i; omega) ((el_14 G o h_i) _ _) rfl rfl hl.1 rfl (Nat.le_of_ble_eq_true rfl) ⟨(Nat.le_of_ble_eq_true rfl), (Nat.le_of_ble_eq_true rfl)⟩ ⟨Nat.zero_le _, Nat.zero_le _⟩ dX0_standsBefore_33 (fun H locs hI => ?_)
      refine lv_istore_n (lv' := [(3, .int (crs (X (15 + 2 * i)) (X (15 + 2 * j)))), (0, .ref (o + (14 + 2 * i))), (1, .ref (o + (14 + 2 * j))), (2, .int r)]) hx hb dX0_standsBefore_36 rfl hl (by decide) rfl (fun ls hl => ?_)
      refine lv_iload_n hx hb dX0_standsBefore_37 rfl (lv_at hl 0 rfl) ?_
      refine lv_if_ne (tgt := 60) hx hb dX0_standsBefore_38 (by decide) (fun c4 => ?_) (fun c4 => ?_)
      · refine lv_iload_n hx hb dX0_standsBefore_60 rfl (lv_at hl 0 rfl) ?_
        refine lv_if_le (tgt := 68) hx hb dX0_standsBefore_61 (by decide) (fun c5 => ?_) (fun c5 => ?_)
        · refine lv_iconst (v := 0) hx hb dX0_standsBefore_68 (by decide) ?_
          exact x_zret hE hr hlocks hI (by decide) (rI0 (by have hd : dif r (X (15 + 2 * i)) (X (15 + 2 * j)) = _ := ((if_neg c1).trans (if_pos c2)); unfold bef; rw [hd]; simp [c4, Int32.not_lt.mpr c5])) rfl rfl dX0_standsBefore_69
        · refine lv_iconst (v := 1) hx hb dX0_standsBefore_64 (by decide) ?_
          refine lv_goto (tgt := 69) hx hb dX0_standsBefore_65 (by decide) ?_
          exact x_zret hE hr hlocks hI (by decide) (rI1 (by have hd : dif r (X (15 + 2 * i)) (X (15 + 2 * j)) = _ := ((if_neg c1).trans (if_pos c2)); unfold bef; rw [hd]; simp [c4, Int32.not_le.mp c5])) rfl rfl dX0_standsBefore_69
      · refine lv_aload_n hx hb dX0_standsBefore_41 rfl (lv_at hl 1 rfl) ?_
        refine x_get (k := (14 + 2 * i)) hE hK hI (by have := h_i; omega) inG0 (el_14 G o h_i _ _) rfl 3 (by decide) mw_86 rfl dX0_standsBefore_42 ?_
        refine lv_aload_n hx hb dX0_standsBefore_45 rfl (lv_at hl 2 rfl) ?_
        refine x_get (k := (14 + 2 * j)) hE hK hI (by have := h_j; omega) inG0 (el_14 G o h_j _ _) rfl 3 (by decide) mw_86 rfl dX0_standsBefore_46 ?_
        refine lv_icmp_ge (tgt := 56) hx hb dX0_standsBefore_49 (by decide) (fun c6 => ?_) (fun c6 => ?_)
        · refine lv_iconst (v := 0) hx hb dX0_standsBefore_56 (by decide) ?_
          refine lv_goto (tgt := 69) hx hb dX0_standsBefore_57 (by decide) ?_
          exact x_zret hE hr hlocks hI (by decide) (rI0 (by have hd : dif r (X (15 + 2 * i)) (X (15 + 2 * j)) = _ := ((if_neg c1).trans (if_pos c2)); unfold bef; rw [hd]; simp [c4, Int32.not_lt.mpr c6])) rfl rfl dX0_standsBefore_69
        · refine lv_iconst (v := 1) hx hb dX0_standsBefore_52 (by decide) ?_
          refine lv_goto (tgt := 69) hx hb dX0_standsBefore_53 (by decide) ?_
          exact x_zret hE hr hlocks hI (by decide) (rI1 (by have hd : dif r (X (15 + 2 * i)) (X (15 + 2 * j)) = _ := ((if_neg c1).trans (if_pos c2)); unfold bef; rw [hd]; simp [c4, Int32.not_le.mp c6])) rfl rfl dX0_standsBefore_69
  · refine lv_aload_n hx hb dX0_standsBefore_7 rfl (lv_at hl 1 rfl) ?_
    refine x_get (k := (14 + 2 * i)) hE hK hI (by have := h_i; omega) inG0 (el_14 G o h_i _ _) rfl 0 (by decide) mw_78 rfl dX0_standsBefore_8 ?_
    refine x_callNi hE hK hI (c_X5_sum l G o _ _ (15 + 2 * i) (em_14 G o h_i) (by have := h_i; omega)) mf_X5_sum hK.2.2.1 rfl hl.1 rfl (Nat.le_of_ble_eq_true rfl) ⟨(Nat.le_of_ble_eq_true rfl), (Nat.le_of_ble_eq_true rfl)⟩ ⟨Nat.zero_le _, Nat.zero_le _⟩ dX0_standsBefore_11 (fun H locs hI => ?_)
    refine lv_aload_n hx hb dX0_standsBefore_14 rfl (lv_at hl 2 rfl) ?_
    refine x_get (k := (14 + 2 * j)) hE hK hI (by have := h_j; omega) inG0 (el_14 G o h_j _ _) rfl 0 (by decide) mw_78 rfl dX0_standsBefore_15 ?_
    refine x_callNi hE hK hI (c_X5_sum l G o _ _ (15 + 2 * j) (em_14 G o h_j) (by have := h_j; omega)) mf_X5_sum hK.2.2.1 rfl hl.1 rfl (Nat.le_of_ble_eq_true rfl) ⟨(Nat.le_of_ble_eq_true rfl), (Nat.le_of_ble_eq_true rfl)⟩ ⟨Nat.zero_le _, Nat.zero_le _⟩ dX0_standsBefore_18 (fun H locs hI => ?_)
    refine lv_isub hx hb dX0_standsBefore_21 ?_
    refine lv_istore_n (lv' := [(3, .int ((sum4 (X (15 + 2 * i))) - (sum4 (X (15 + 2 * j))))), (0, .ref (o + (14 + 2 * i))), (1, .ref (o + (14 + 2 * j))), (2, .int r)]) hx hb dX0_standsBefore_22 rfl hl (by decide) rfl (fun ls hl => ?_)
    refine lv_goto (tgt := 37) hx hb dX0_standsBefore_23 (by decide) ?_
    refine lv_iload_n hx hb dX0_standsBefore_37 rfl (lv_at hl 0 rfl) ?_
    refine lv_if_ne (tgt := 60) hx hb dX0_standsBefore_38 (by decide) (fun c7 => ?_) (fun c7 => ?_)
    · refine lv_iload_n hx hb dX0_standsBefore_60 rfl (lv_at hl 0 rfl) ?_
      refine lv_if_le (tgt := 68) hx hb dX0_standsBefore_61 (by decide) (fun c8 => ?_) (fun c8 => ?_)
      · refine lv_iconst (v := 0) hx hb dX0_standsBefore_68 (by decide) ?_
        exact x_zret hE hr hlocks hI (by decide) (rI0 (by have hd : dif r (X (15 + 2 * i)) (X (15 + 2 * j)) = _ := (if_pos c1); unfold bef; rw [hd]; simp [c7, Int32.not_lt.mpr c8])) rfl rfl dX0_standsBefore_69
      · refine lv_iconst (v := 1) hx hb dX0_standsBefore_64 (by decide) ?_
        refine lv_goto (tgt := 69) hx hb dX0_standsBefore_65 (by decide) ?_
        exact x_zret hE hr hlocks hI (by decide) (rI1 (by have hd : dif r (X (15 + 2 * i)) (X (15 + 2 * j)) = _ := (if_pos c1); unfold bef; rw [hd]; simp [c7, Int32.not_le.mp c8])) rfl rfl dX0_standsBefore_69
    · refine lv_aload_n hx hb dX0_standsBefore_41 rfl (lv_at hl 1 rfl) ?_
      refine x_get (k := (14 + 2 * i)) hE hK hI (by have := h_i; omega) inG0 (el_14 G o h_i _ _) rfl 3 (by decide) mw_86 rfl dX0_standsBefore_42 ?_
      refine lv_aload_n hx hb dX0_standsBefore_45 rfl (lv_at hl 2 rfl) ?_
      refine x_get (k := (14 + 2 * j)) hE hK hI (by have := h_j; omega) inG0 (el_14 G o h_j _ _) rfl 3 (by decide) mw_86 rfl dX0_standsBefore_46 ?_
      refine lv_icmp_ge (tgt := 56) hx hb dX0_standsBefore_49 (by decide) (fun c9 => ?_) (fun c9 => ?_)
      · refine lv_iconst (v := 0) hx hb dX0_standsBefore_56 (by decide) ?_
        refine lv_goto (tgt := 69) hx hb dX0_standsBefore_57 (by decide) ?_
        exact x_zret hE hr hlocks hI (by decide) (rI0 (by have hd : dif r (X (15 + 2 * i)) (X (15 + 2 * j)) = _ := (if_pos c1); unfold bef; rw [hd]; simp [c7, Int32.not_lt.mpr c9])) rfl rfl dX0_standsBefore_69
      · refine lv_iconst (v := 1) hx hb dX0_standsBefore_52 (by decide) ?_
        refine lv_goto (tgt := 69) hx hb dX0_standsBefore_53 (by decide) ?_
        exact x_zret hE hr hlocks hI (by decide) (rI1 (by have hd : dif r (X (15 + 2 * i)) (X (15 + 2 * j)) = _ := (if_pos c1); unfold bef; rw [hd]; simp [c7, Int32.not_le.mp c9])) rfl rfl dX0_standsBefore_69
set_option maxRecDepth 100000 in
set_option maxHeartbeats 4000000 in
theorem c_X0_energyToGrind (l : Launch) (G : GG) (o : Nat) (X : SX) (Y : SY) (i : Nat) (h_i : i < 40) : Ct l yX0_energyToGrind cX0_energyToGrind 4 (some .int) 0 0 G o [.ref (o + (14 + 2 * i)), .ref (o + 9)] X Y (some (.int (engy (X 9) (X (15 + 2 * i))))) X Y := by
  refine Ct.mk (by decide +kernel) (Nat.le_of_ble_eq_true rfl) rfl ?_
  intro p9 e9 s9 m9 args9 below9 meth9 c9 hE hr hlocks hK hI ls hl
  have hx := hE.1
  have hb := hE.2.1
  have hl : lv_has ls 4 [(0, .ref (o + (14 + 2 * i))), (1, .ref (o + 9))] := hl
  refine lv_iconst (v := 0) hx hb dX0_energyToGrind_0 (by decide) ?_
  refine lv_istore_n (lv' := [(2, .int 0), (0, .ref (o + (14 + 2 * i))), (1, .ref (o + 9))]) hx hb dX0_energyToGrind_1 rfl hl (by decide) rfl (fun ls hl => ?_)
  refine lv_iconst (v := 0) hx hb dX0_energyToGrind_2 (by decide) ?_
  refine lv_istore_n (lv' := [(3, .int 0), (2, .int 0), (0, .ref (o + (14 + 2 * i))), (1, .ref (o + 9))]) hx hb dX0_energyToGrind_3 rfl hl (by decide) rfl (fun ls hl => ?_)
  refine lv_iload_n hx hb dX0_energyToGrind_4 rfl (lv_at hl 0 rfl) ?_
  refine lv_iconst (v := 4) hx hb dX0_energyToGrind_5 (by decide) ?_
  refine lv_icmp_ge (tgt := 28) hx hb dX0_energyToGrind_6 (by decide) (fun q => absurd q (by decide)) (fun _ => ?_)
  refine lv_iload_n hx hb dX0_energyToGrind_9 rfl (lv_at hl 1 rfl) ?_
  refine lv_aload_n hx hb dX0_energyToGrind_10 rfl (lv_at hl 3 rfl) ?_
  refine lv_iload_n hx hb dX0_energyToGrind_11 rfl (lv_at hl 0 rfl) ?_
  refine x_iald (k := 9) (j := 0) hE hK hI (by decide) (e_9 G o) (by decide) (by decide) rfl dX0_energyToGrind_12 ?_
  refine lv_aload_n hx hb dX0_energyToGrind_13 rfl (lv_at hl 2 rfl) ?_
  refine x_get (k := (14 + 2 * i)) hE hK hI (by have := h_i; omega) inG0 (el_14 G o h_i _ _) rfl 0 (by decide) mw_78 rfl dX0_energyToGrind_14 ?_
  refine lv_iload_n hx hb dX0_energyToGrind_17 rfl (lv_at hl 0 rfl) ?_
  refine x_iald (k := (15 + 2 * i)) (j := 0) hE hK hI (by have := h_i; omega) (em_14 G o h_i) (by decide) (by decide) rfl dX0_energyToGrind_18 ?_
  refine lv_imul hx hb dX0_energyToGrind_19 ?_
  refine lv_iadd hx hb dX0_energyToGrind_20 ?_
  refine lv_istore_n (lv' := [(2, .int (0 + ((X 9 0) * (X (15 + 2 * i) 0)))), (3, .int 0), (0, .ref (o + (14 + 2 * i))), (1, .ref (o + 9))]) hx hb dX0_energyToGrind_21 rfl hl (by decide) rfl (fun ls hl => ?_)
  refine lv_iinc (v := 1) (lv' := [(3, .int 1), (2, .int (0 + ((X 9 0) * (X (15 + 2 * i) 0)))), (0, .ref (o + (14 + 2 * i))), (1, .ref (o + 9))]) hx hb dX0_energyToGrind_22 hl (k := 1) rfl (by decide) (by decide) rfl (fun ls hl => ?_)
  refine lv_goto (tgt := 4) hx hb dX0_energyToGrind_25 (by decide) ?_
  refine lv_iload_n hx hb dX0_energyToGrind_4 rfl (lv_at hl 0 rfl) ?_
  refine lv_iconst (v := 4) hx hb dX0_energyToGrind_5 (by decide) ?_
  refine lv_icmp_ge (tgt := 28) hx hb dX0_energyToGrind_6 (by decide) (fun q => absurd q (by decide)) (fun _ => ?_)
  refine lv_iload_n hx hb dX0_energyToGrind_9 rfl (lv_at hl 1 rfl) ?_
  refine lv_aload_n hx hb dX0_energyToGrind_10 rfl (lv_at hl 3 rfl) ?_
  refine lv_iload_n hx hb dX0_energyToGrind_11 rfl (lv_at hl 0 rfl) ?_
  refine x_iald (k := 9) (j := 1) hE hK hI (by decide) (e_9 G o) (by decide) (by decide) rfl dX0_energyToGrind_12 ?_
  refine lv_aload_n hx hb dX0_energyToGrind_13 rfl (lv_at hl 2 rfl) ?_
  refine x_get (k := (14 + 2 * i)) hE hK hI (by have := h_i; omega) inG0 (el_14 G o h_i _ _) rfl 0 (by decide) mw_78 rfl dX0_energyToGrind_14 ?_
  refine lv_iload_n hx hb dX0_energyToGrind_17 rfl (lv_at hl 0 rfl) ?_
  refine x_iald (k := (15 + 2 * i)) (j := 1) hE hK hI (by have := h_i; omega) (em_14 G o h_i) (by decide) (by decide) rfl dX0_energyToGrind_18 ?_
  refine lv_imul hx hb dX0_energyToGrind_19 ?_
  refine lv_iadd hx hb dX0_energyToGrind_20 ?_
  refine lv_istore_n (lv' := [(2, .int ((0 + ((X 9 0) * (X (15 + 2 * i) 0))) + ((X 9 1) * (X (15 + 2 * i) 1)))), (3, .int 1), (0, .ref (o + (14 + 2 * i))), (1, .ref (o + 9))]) hx hb dX0_energyToGrind_21 rfl hl (by decide) rfl (fun ls hl => ?_)
  refine lv_iinc (v := 2) (lv' := [(3, .int 2), (2, .int ((0 + ((X 9 0) * (X (15 + 2 * i) 0))) + ((X 9 1) * (X (15 + 2 * i) 1)))), (0, .ref (o + (14 + 2 * i))), (1, .ref (o + 9))]) hx hb dX0_energyToGrind_22 hl (k := 1) rfl (by decide) (by decide) rfl (fun ls hl => ?_)
  refine lv_goto (tgt := 4) hx hb dX0_energyToGrind_25 (by decide) ?_
  refine lv_iload_n hx hb dX0_energyToGrind_4 rfl (lv_at hl 0 rfl) ?_
  refine lv_iconst (v := 4) hx hb dX0_energyToGrind_5 (by decide) ?_
  refine lv_icmp_ge (tgt := 28) hx hb dX0_energyToGrind_6 (by decide) (fun q => absurd q (by decide)) (fun _ => ?_)
  refine lv_iload_n hx hb dX0_energyToGrind_9 rfl (lv_at hl 1 rfl) ?_
  refine lv_aload_n hx hb dX0_energyToGrind_10 rfl (lv_at hl 3 rfl) ?_
  refine lv_iload_n hx hb dX0_energyToGrind_11 rfl (lv_at hl 0 rfl) ?_
  refine x_iald (k := 9) (j := 2) hE hK hI (by decide) (e_9 G o) (by decide) (by decide) rfl dX0_energyToGrind_12 ?_
  refine lv_aload_n hx hb dX0_energyToGrind_13 rfl (lv_at hl 2 rfl) ?_
  refine x_get (k := (14 + 2 * i)) hE hK hI (by have := h_i; omega) inG0 (el_14 G o h_i _ _) rfl 0 (by decide) mw_78 rfl dX0_energyToGrind_14 ?_
  refine lv_iload_n hx hb dX0_energyToGrind_17 rfl (lv_at hl 0 rfl) ?_
  refine x_iald (k := (15 + 2 * i)) (j := 2) hE hK hI (by have := h_i; omega) (em_14 G o h_i) (by decide) (by decide) rfl dX0_energyToGrind_18 ?_
  refine lv_imul hx hb dX0_energyToGrind_19 ?_
  refine lv_iadd hx hb dX0_energyToGrind_20 ?_
  refine lv_istore_n (lv' := [(2, .int (((0 + ((X 9 0) * (X (15 + 2 * i) 0))) + ((X 9 1) * (X (15 + 2 * i) 1))) + ((X 9 2) * (X (15 + 2 * i) 2)))), (3, .int 2), (0, .ref (o + (14 + 2 * i))), (1, .ref (o + 9))]) hx hb dX0_energyToGrind_21 rfl hl (by decide) rfl (fun ls hl => ?_)
  refine lv_iinc (v := 3) (lv' := [(3, .int 3), (2, .int (((0 + ((X 9 0) * (X (15 + 2 * i) 0))) + ((X 9 1) * (X (15 + 2 * i) 1))) + ((X 9 2) * (X (15 + 2 * i) 2)))), (0, .ref (o + (14 + 2 * i))), (1, .ref (o + 9))]) hx hb dX0_energyToGrind_22 hl (k := 1) rfl (by decide) (by decide) rfl (fun ls hl => ?_)
  refine lv_goto (tgt := 4) hx hb dX0_energyToGrind_25 (by decide) ?_
  refine lv_iload_n hx hb dX0_energyToGrind_4 rfl (lv_at hl 0 rfl) ?_
  refine lv_iconst (v := 4) hx hb dX0_energyToGrind_5 (by decide) ?_
  refine lv_icmp_ge (tgt := 28) hx hb dX0_energyToGrind_6 (by decide) (fun q => absurd q (by decide)) (fun _ => ?_)
  refine lv_iload_n hx hb dX0_energyToGrind_9 rfl (lv_at hl 1 rfl) ?_
  refine lv_aload_n hx hb dX0_energyToGrind_10 rfl (lv_at hl 3 rfl) ?_
  refine lv_iload_n hx hb dX0_energyToGrind_11 rfl (lv_at hl 0 rfl) ?_
  refine x_iald (k := 9) (j := 3) hE hK hI (by decide) (e_9 G o) (by decide) (by decide) rfl dX0_energyToGrind_12 ?_
  refine lv_aload_n hx hb dX0_energyToGrind_13 rfl (lv_at hl 2 rfl) ?_
  refine x_get (k := (14 + 2 * i)) hE hK hI (by have := h_i; omega) inG0 (el_14 G o h_i _ _) rfl 0 (by decide) mw_78 rfl dX0_energyToGrind_14 ?_
  refine lv_iload_n hx hb dX0_energyToGrind_17 rfl (lv_at hl 0 rfl) ?_
  refine x_iald (k := (15 + 2 * i)) (j := 3) hE hK hI (by have := h_i; omega) (em_14 G o h_i) (by decide) (by decide) rfl dX0_energyToGrind_18 ?_
  refine lv_imul hx hb dX0_energyToGrind_19 ?_
  refine lv_iadd hx hb dX0_energyToGrind_20 ?_
  refine lv_istore_n (lv' := [(2, .int ((((0 + ((X 9 0) * (X (15 + 2 * i) 0))) + ((X 9 1) * (X (15 + 2 * i) 1))) + ((X 9 2) * (X (15 + 2 * i) 2))) + ((X 9 3) * (X (15 + 2 * i) 3)))), (3, .int 3), (0, .ref (o + (14 + 2 * i))), (1, .ref (o + 9))]) hx hb dX0_energyToGrind_21 rfl hl (by decide) rfl (fun ls hl => ?_)
  refine lv_iinc (v := 4) (lv' := [(3, .int 4), (2, .int ((((0 + ((X 9 0) * (X (15 + 2 * i) 0))) + ((X 9 1) * (X (15 + 2 * i) 1))) + ((X 9 2) * (X (15 + 2 * i) 2))) + ((X 9 3) * (X (15 + 2 * i) 3)))), (0, .ref (o + (14 + 2 * i))), (1, .ref (o + 9))]) hx hb dX0_energyToGrind_22 hl (k := 1) rfl (by decide) (by decide) rfl (fun ls hl => ?_)
  refine lv_goto (tgt := 4) hx hb dX0_energyToGrind_25 (by decide) ?_
  refine lv_iload_n hx hb dX0_energyToGrind_4 rfl (lv_at hl 0 rfl) ?_
  refine lv_iconst (v := 4) hx hb dX0_energyToGrind_5 (by decide) ?_
  refine lv_icmp_ge (tgt := 28) hx hb dX0_energyToGrind_6 (by decide) (fun _ => ?_) (fun q => absurd (by decide) q)
  refine lv_iload_n hx hb dX0_energyToGrind_28 rfl (lv_at hl 1 rfl) ?_
  exact x_iret hE hr hlocks hI rfl rfl rfl dX0_energyToGrind_29
def brkX (X : SX) (i : Nat) : SX := sx (sx (sx (sx (sx (sx (sx (sx (sx (sx (sx (sx X (15 + 2 * i) 3 ((X (15 + 2 * i) 3) + (((X (15 + 2 * i) 2) * (X 6 3)) / 10))) (15 + 2 * i) 2 ((X (15 + 2 * i) 2) - (((X (15 + 2 * i) 2) * (X 6 3)) / 10))) (15 + 2 * i) 2 (((X (15 + 2 * i) 2) - (((X (15 + 2 * i) 2) * (X 6 3)) / 10)) + (((X (15 + 2 * i) 1) * (X 5 2)) / 10))) (15 + 2 * i) 1 ((X (15 + 2 * i) 1) - (((X (15 + 2 * i) 1) * (X 5 2)) / 10))) (15 + 2 * i) 3 (((X (15 + 2 * i) 3) + (((X (15 + 2 * i) 2) * (X 6 3)) / 10)) + (((X (15 + 2 * i) 1) * (X 5 3)) / 10))) (15 + 2 * i) 1 (((X (15 + 2 * i) 1) - (((X (15 + 2 * i) 1) * (X 5 2)) / 10)) - (((X (15 + 2 * i) 1) * (X 5 3)) / 10))) (15 + 2 * i) 1 ((((X (15 + 2 * i) 1) - (((X (15 + 2 * i) 1) * (X 5 2)) / 10)) - (((X (15 + 2 * i) 1) * (X 5 3)) / 10)) + (((X (15 + 2 * i) 0) * (X 4 1)) / 10))) (15 + 2 * i) 0 ((X (15 + 2 * i) 0) - (((X (15 + 2 * i) 0) * (X 4 1)) / 10))) (15 + 2 * i) 2 ((((X (15 + 2 * i) 2) - (((X (15 + 2 * i) 2) * (X 6 3)) / 10)) + (((X (15 + 2 * i) 1) * (X 5 2)) / 10)) + (((X (15 + 2 * i) 0) * (X 4 2)) / 10))) (15 + 2 * i) 0 (((X (15 + 2 * i) 0) - (((X (15 + 2 * i) 0) * (X 4 1)) / 10)) - (((X (15 + 2 * i) 0) * (X 4 2)) / 10))) (15 + 2 * i) 3 ((((X (15 + 2 * i) 3) + (((X (15 + 2 * i) 2) * (X 6 3)) / 10)) + (((X (15 + 2 * i) 1) * (X 5 3)) / 10)) + (((X (15 + 2 * i) 0) * (X 4 3)) / 10))) (15 + 2 * i) 0 ((((X (15 + 2 * i) 0) - (((X (15 + 2 * i) 0) * (X 4 1)) / 10)) - (((X (15 + 2 * i) 0) * (X 4 2)) / 10)) - (((X (15 + 2 * i) 0) * (X 4 3)) / 10))
set_option maxRecDepth 100000 in
set_option maxHeartbeats 4000000 in
theorem c_X0_breakOre (l : Launch) (G : GG) (o : Nat) (X : SX) (Y : SY) (i : Nat) (h_i : i < 40) : Ct l yX0_breakOre cX0_breakOre 6 none 0 0 G o [.ref (o + (14 + 2 * i)), .ref (o + 3)] X Y none (brkX X i) Y := by
  refine Ct.mk (by decide +kernel) (Nat.le_of_ble_eq_true rfl) rfl ?_
  intro p9 e9 s9 m9 args9 below9 meth9 c9 hE hr hlocks hK hI ls hl
  have hx := hE.1
  have hb := hE.2.1
  have hl : lv_has ls 6 [(0, .ref (o + (14 + 2 * i))), (1, .ref (o + 3))] := hl
  refine lv_iconst (v := 3) hx hb dX0_breakOre_0 (by decide) ?_
  refine lv_istore_n (lv' := [(2, .int 3), (0, .ref (o + (14 + 2 * i))), (1, .ref (o + 3))]) hx hb dX0_breakOre_1 rfl hl (by decide) rfl (fun ls hl => ?_)
  refine lv_iload_n hx hb dX0_breakOre_2 rfl (lv_at hl 0 rfl) ?_
  refine lv_if_lt (tgt := 72) hx hb dX0_breakOre_3 (by decide) (fun q => absurd q (by decide)) (fun _ => ?_)
  refine lv_aload_n hx hb dX0_breakOre_6 rfl (lv_at hl 1 rfl) ?_
  refine x_get (k := (14 + 2 * i)) hE hK hI (by have := h_i; omega) inG0 (el_14 G o h_i _ _) rfl 0 (by decide) mw_78 rfl dX0_breakOre_7 ?_
  refine lv_iload_n hx hb dX0_breakOre_10 rfl (lv_at hl 0 rfl) ?_
  refine x_iald (k := (15 + 2 * i)) (j := 3) hE hK hI (by have := h_i; omega) (em_14 G o h_i) (by decide) (by decide) rfl dX0_breakOre_11 ?_
  refine lv_istore_n (lv' := [(3, .int (X (15 + 2 * i) 3)), (2, .int 3), (0, .ref (o + (14 + 2 * i))), (1, .ref (o + 3))]) hx hb dX0_breakOre_12 rfl hl (by decide) rfl (fun ls hl => ?_)
  refine lv_iload_n hx hb dX0_breakOre_13 rfl (lv_at hl 1 rfl) ?_
  refine lv_iconst (v := 1) hx hb dX0_breakOre_14 (by decide) ?_
  refine lv_iadd hx hb dX0_breakOre_15 ?_
  refine lv_topi (fun z1 ez1 => ?_)
  obtain rfl : 4 = z1 := (ez1.trans (by decide)).symm
  refine lv_istore (lv' := [(4, .int 4), (3, .int (X (15 + 2 * i) 3)), (2, .int 3), (0, .ref (o + (14 + 2 * i))), (1, .ref (o + 3))]) hx hb dX0_breakOre_16 hl (by decide) rfl (fun ls hl => ?_)
  refine lv_iload hx hb dX0_breakOre_18 (lv_at hl 0 rfl) ?_
  refine lv_iconst (v := 4) hx hb dX0_breakOre_20 (by decide) ?_
  refine lv_icmp_ge (tgt := 66) hx hb dX0_breakOre_21 (by decide) (fun _ => ?_) (fun q => absurd (by decide) q)
  refine lv_iinc (v := 2) (lv' := [(2, .int 2), (4, .int 4), (3, .int (X (15 + 2 * i) 3)), (0, .ref (o + (14 + 2 * i))), (1, .ref (o + 3))]) hx hb dX0_breakOre_66 hl (k := 2) rfl (by decide) (by decide) rfl (fun ls hl => ?_)
  refine lv_goto (tgt := 2) hx hb dX0_breakOre_69 (by decide) ?_
  refine lv_iload_n hx hb dX0_breakOre_2 rfl (lv_at hl 0 rfl) ?_
  refine lv_if_lt (tgt := 72) hx hb dX0_breakOre_3 (by decide) (fun q => absurd q (by decide)) (fun _ => ?_)
  refine lv_aload_n hx hb dX0_breakOre_6 rfl (lv_at hl 3 rfl) ?_
  refine x_get (k := (14 + 2 * i)) hE hK hI (by have := h_i; omega) inG0 (el_14 G o h_i _ _) rfl 0 (by decide) mw_78 rfl dX0_breakOre_7 ?_
  refine lv_iload_n hx hb dX0_breakOre_10 rfl (lv_at hl 0 rfl) ?_
  refine x_iald (k := (15 + 2 * i)) (j := 2) hE hK hI (by have := h_i; omega) (em_14 G o h_i) (by decide) (by decide) rfl dX0_breakOre_11 ?_
  refine lv_istore_n (lv' := [(3, .int (X (15 + 2 * i) 2)), (2, .int 2), (4, .int 4), (0, .ref (o + (14 + 2 * i))), (1, .ref (o + 3))]) hx hb dX0_breakOre_12 rfl hl (by decide) rfl (fun ls hl => ?_)
  refine lv_iload_n hx hb dX0_breakOre_13 rfl (lv_at hl 1 rfl) ?_
  refine lv_iconst (v := 1) hx hb dX0_breakOre_14 (by decide) ?_
  refine lv_iadd hx hb dX0_breakOre_15 ?_
  refine lv_topi (fun z2 ez2 => ?_)
  obtain rfl : 3 = z2 := (ez2.trans (by decide)).symm
  refine lv_istore (lv' := [(4, .int 3), (3, .int (X (15 + 2 * i) 2)), (2, .int 2), (0, .ref (o + (14 + 2 * i))), (1, .ref (o + 3))]) hx hb dX0_breakOre_16 hl (by decide) rfl (fun ls hl => ?_)
  refine lv_iload hx hb dX0_breakOre_18 (lv_at hl 0 rfl) ?_
  refine lv_iconst (v := 4) hx hb dX0_breakOre_20 (by decide) ?_
  refine lv_icmp_ge (tgt := 66) hx hb dX0_breakOre_21 (by decide) (fun q => absurd q (by decide)) (fun _ => ?_)
  refine lv_iload_n hx hb dX0_breakOre_24 rfl (lv_at hl 1 rfl) ?_
  refine lv_aload_n hx hb dX0_breakOre_25 rfl (lv_at hl 4 rfl) ?_
  refine lv_iload_n hx hb dX0_breakOre_26 rfl (lv_at hl 2 rfl) ?_
  refine x_aald (k := 3) (j := 2) (t0 := 5) (q := o + 6) hE hK hI (by decide) (e_3 G o) rfl rfl (by decide) (by decide) rfl rfl dX0_breakOre_27 ?_
  refine lv_iload hx hb dX0_breakOre_28 (lv_at hl 0 rfl) ?_
  refine x_iald (k := 6) (j := 3) hE hK hI (by decide) (e_6 G o) (by decide) (by decide) rfl dX0_breakOre_30 ?_
  refine lv_imul hx hb dX0_breakOre_31 ?_
  refine lv_bipush (v := 10) hx hb dX0_breakOre_32 (by decide) ?_
  refine lv_idiv hx hb dX0_breakOre_34 (by decide) ?_
  refine lv_istore (lv' := [(5, .int (((X (15 + 2 * i) 2) * (X 6 3)) / 10)), (4, .int 3), (3, .int (X (15 + 2 * i) 2)), (2, .int 2), (0, .ref (o + (14 + 2 * i))), (1, .ref (o + 3))]) hx hb dX0_breakOre_35 hl (by decide) rfl (fun ls hl => ?_)
  refine lv_aload_n hx hb dX0_breakOre_37 rfl (lv_at hl 4 rfl) ?_
  refine x_get (k := (14 + 2 * i)) hE hK hI (by have := h_i; omega) inG0 (el_14 G o h_i _ _) rfl 0 (by decide) mw_78 rfl dX0_breakOre_38 ?_
  refine lv_iload hx hb dX0_breakOre_41 (lv_at hl 1 rfl) ?_
  refine lv_dup2_11 hx hb dX0_breakOre_43 rfl rfl ?_
  refine x_iald (k := (15 + 2 * i)) (j := 3) hE hK hI (by have := h_i; omega) (em_14 G o h_i) (by decide) (by decide) rfl dX0_breakOre_44 ?_
  refine lv_iload hx hb dX0_breakOre_45 (lv_at hl 0 rfl) ?_
  refine lv_iadd hx hb dX0_breakOre_47 ?_
  refine x_iast (k := (15 + 2 * i)) (j := 3) hE hK hI (by have := h_i; omega) (em_14 G o h_i) (by decide) (by decide) rfl dX0_breakOre_48 (fun H locs hI => ?_)
  refine lv_aload_n hx hb dX0_breakOre_49 rfl (lv_at hl 4 rfl) ?_
  refine x_get (k := (14 + 2 * i)) hE hK hI (by have := h_i; omega) inG0 (el_14 G o h_i _ _) rfl 0 (by decide) mw_78 rfl dX0_breakOre_50 ?_
  refine lv_iload_n hx hb dX0_breakOre_53 rfl (lv_at hl 3 rfl) ?_
  refine lv_dup2_11 hx hb dX0_breakOre_54 rfl rfl ?_
  refine x_iald (k := (15 + 2 * i)) (j := 2) hE hK hI (by have := h_i; omega) (em_14 G o h_i) (by decide) (by decide) rfl dX0_breakOre_55 ?_
  refine lv_topi (fun z3 ez3 => ?_)
  obtain rfl : X (15 + 2 * i) 2 = z3 := (ez3.trans ((sx_o (by omega)))).symm
  refine lv_iload hx hb dX0_breakOre_56 (lv_at hl 0 rfl) ?_
  refine lv_isub hx hb dX0_breakOre_58 ?_
  refine x_iast (k := (15 + 2 * i)) (j := 2) hE hK hI (by have := h_i; omega) (em_14 G o h_i) (by decide) (by decide) rfl dX0_breakOre_59 (fun H locs hI => ?_)
  refine lv_iinc (v := 4) (lv' := [(4, .int 4), (5, .int (((X (15 + 2 * i) 2) * (X 6 3)) / 10)), (3, .int (X (15 + 2 * i) 2)), (2, .int 2), (0, .ref (o + (14 + 2 * i))), (1, .ref (o + 3))]) hx hb dX0_breakOre_60 hl (k := 1) rfl (by decide) (by decide) rfl (fun ls hl => ?_)
  refine lv_goto (tgt := 18) hx hb dX0_breakOre_63 (by decide) ?_
  refine lv_iload hx hb dX0_breakOre_18 (lv_at hl 0 rfl) ?_
  refine lv_iconst (v := 4) hx hb dX0_breakOre_20 (by decide) ?_
  refine lv_icmp_ge (tgt := 66) hx hb dX0_breakOre_21 (by decide) (fun _ => ?_) (fun q => absurd (by decide) q)
  refine lv_iinc (v := 1) (lv' := [(2, .int 1), (4, .int 4), (5, .int (((X (15 + 2 * i) 2) * (X 6 3)) / 10)), (3, .int (X (15 + 2 * i) 2)), (0, .ref (o + (14 + 2 * i))), (1, .ref (o + 3))]) hx hb dX0_breakOre_66 hl (k := 3) rfl (by decide) (by decide) rfl (fun ls hl => ?_)
  refine lv_goto (tgt := 2) hx hb dX0_breakOre_69 (by decide) ?_
  refine lv_iload_n hx hb dX0_breakOre_2 rfl (lv_at hl 0 rfl) ?_
  refine lv_if_lt (tgt := 72) hx hb dX0_breakOre_3 (by decide) (fun q => absurd q (by decide)) (fun _ => ?_)
  refine lv_aload_n hx hb dX0_breakOre_6 rfl (lv_at hl 4 rfl) ?_
  refine x_get (k := (14 + 2 * i)) hE hK hI (by have := h_i; omega) inG0 (el_14 G o h_i _ _) rfl 0 (by decide) mw_78 rfl dX0_breakOre_7 ?_
  refine lv_iload_n hx hb dX0_breakOre_10 rfl (lv_at hl 0 rfl) ?_
  refine x_iald (k := (15 + 2 * i)) (j := 1) hE hK hI (by have := h_i; omega) (em_14 G o h_i) (by decide) (by decide) rfl dX0_breakOre_11 ?_
  refine lv_topi (fun z4 ez4 => ?_)
  obtain rfl : X (15 + 2 * i) 1 = z4 := (ez4.trans ((sx_o (by omega)).trans ((sx_o (by omega))))).symm
  refine lv_istore_n (lv' := [(3, .int (X (15 + 2 * i) 1)), (2, .int 1), (4, .int 4), (5, .int (((X (15 + 2 * i) 2) * (X 6 3)) / 10)), (0, .ref (o + (14 + 2 * i))), (1, .ref (o + 3))]) hx hb dX0_breakOre_12 rfl hl (by decide) rfl (fun ls hl => ?_)
  refine lv_iload_n hx hb dX0_breakOre_13 rfl (lv_at hl 1 rfl) ?_
  refine lv_iconst (v := 1) hx hb dX0_breakOre_14 (by decide) ?_
  refine lv_iadd hx hb dX0_breakOre_15 ?_
  refine lv_topi (fun z5 ez5 => ?_)
  obtain rfl : 2 = z5 := (ez5.trans (by decide)).symm
  refine lv_istore (lv' := [(4, .int 2), (3, .int (X (15 + 2 * i) 1)), (2, .int 1), (5, .int (((X (15 + 2 * i) 2) * (X 6 3)) / 10)), (0, .ref (o + (14 + 2 * i))), (1, .ref (o + 3))]) hx hb dX0_breakOre_16 hl (by decide) rfl (fun ls hl => ?_)
  refine lv_iload hx hb dX0_breakOre_18 (lv_at hl 0 rfl) ?_
  refine lv_iconst (v := 4) hx hb dX0_breakOre_20 (by decide) ?_
  refine lv_icmp_ge (tgt := 66) hx hb dX0_breakOre_21 (by decide) (fun q => absurd q (by decide)) (fun _ => ?_)
  refine lv_iload_n hx hb dX0_breakOre_24 rfl (lv_at hl 1 rfl) ?_
  refine lv_aload_n hx hb dX0_breakOre_25 rfl (lv_at hl 5 rfl) ?_
  refine lv_iload_n hx hb dX0_breakOre_26 rfl (lv_at hl 2 rfl) ?_
  refine x_aald (k := 3) (j := 1) (t0 := 5) (q := o + 5) hE hK hI (by decide) (e_3 G o) rfl rfl (by decide) (by decide) rfl rfl dX0_breakOre_27 ?_
  refine lv_iload hx hb dX0_breakOre_28 (lv_at hl 0 rfl) ?_
  refine x_iald (k := 5) (j := 2) hE hK hI (by decide) (e_5 G o) (by decide) (by decide) rfl dX0_breakOre_30 ?_
  refine lv_topi (fun z6 ez6 => ?_)
  obtain rfl : X 5 2 = z6 := (ez6.trans ((sx_o (by omega)).trans ((sx_o (by omega))))).symm
  refine lv_imul hx hb dX0_breakOre_31 ?_
  refine lv_bipush (v := 10) hx hb dX0_breakOre_32 (by decide) ?_
  refine lv_idiv hx hb dX0_breakOre_34 (by decide) ?_
  refine lv_istore (lv' := [(5, .int (((X (15 + 2 * i) 1) * (X 5 2)) / 10)), (4, .int 2), (3, .int (X (15 + 2 * i) 1)), (2, .int 1), (0, .ref (o + (14 + 2 * i))), (1, .ref (o + 3))]) hx hb dX0_breakOre_35 hl (by decide) rfl (fun ls hl => ?_)
  refine lv_aload_n hx hb dX0_breakOre_37 rfl (lv_at hl 4 rfl) ?_
  refine x_get (k := (14 + 2 * i)) hE hK hI (by have := h_i; omega) inG0 (el_14 G o h_i _ _) rfl 0 (by decide) mw_78 rfl dX0_breakOre_38 ?_
  refine lv_iload hx hb dX0_breakOre_41 (lv_at hl 1 rfl) ?_
  refine lv_dup2_11 hx hb dX0_breakOre_43 rfl rfl ?_
  refine x_iald (k := (15 + 2 * i)) (j := 2) hE hK hI (by have := h_i; omega) (em_14 G o h_i) (by decide) (by decide) rfl dX0_breakOre_44 ?_
  refine lv_topi (fun z7 ez7 => ?_)
  obtain rfl : (X (15 + 2 * i) 2) - (((X (15 + 2 * i) 2) * (X 6 3)) / 10) = z7 := (ez7.trans (sx_e)).symm
  refine lv_iload hx hb dX0_breakOre_45 (lv_at hl 0 rfl) ?_
  refine lv_iadd hx hb dX0_breakOre_47 ?_
  refine x_iast (k := (15 + 2 * i)) (j := 2) hE hK hI (by have := h_i; omega) (em_14 G o h_i) (by decide) (by decide) rfl dX0_breakOre_48 (fun H locs hI => ?_)
  refine lv_aload_n hx hb dX0_breakOre_49 rfl (lv_at hl 4 rfl) ?_
  refine x_get (k := (14 + 2 * i)) hE hK hI (by have := h_i; omega) inG0 (el_14 G o h_i _ _) rfl 0 (by decide) mw_78 rfl dX0_breakOre_50 ?_
  refine lv_iload_n hx hb dX0_breakOre_53 rfl (lv_at hl 3 rfl) ?_
  refine lv_dup2_11 hx hb dX0_breakOre_54 rfl rfl ?_
  refine x_iald (k := (15 + 2 * i)) (j := 1) hE hK hI (by have := h_i; omega) (em_14 G o h_i) (by decide) (by decide) rfl dX0_breakOre_55 ?_
  refine lv_topi (fun z8 ez8 => ?_)
  obtain rfl : X (15 + 2 * i) 1 = z8 := (ez8.trans ((sx_o (by omega)).trans ((sx_o (by omega)).trans ((sx_o (by omega)))))).symm
  refine lv_iload hx hb dX0_breakOre_56 (lv_at hl 0 rfl) ?_
  refine lv_isub hx hb dX0_breakOre_58 ?_
  refine x_iast (k := (15 + 2 * i)) (j := 1) hE hK hI (by have := h_i; omega) (em_14 G o h_i) (by decide) (by decide) rfl dX0_breakOre_59 (fun H locs hI => ?_)
  refine lv_iinc (v := 3) (lv' := [(4, .int 3), (5, .int (((X (15 + 2 * i) 1) * (X 5 2)) / 10)), (3, .int (X (15 + 2 * i) 1)), (2, .int 1), (0, .ref (o + (14 + 2 * i))), (1, .ref (o + 3))]) hx hb dX0_breakOre_60 hl (k := 1) rfl (by decide) (by decide) rfl (fun ls hl => ?_)
  refine lv_goto (tgt := 18) hx hb dX0_breakOre_63 (by decide) ?_
  refine lv_iload hx hb dX0_breakOre_18 (lv_at hl 0 rfl) ?_
  refine lv_iconst (v := 4) hx hb dX0_breakOre_20 (by decide) ?_
  refine lv_icmp_ge (tgt := 66) hx hb dX0_breakOre_21 (by decide) (fun q => absurd q (by decide)) (fun _ => ?_)
  refine lv_iload_n hx hb dX0_breakOre_24 rfl (lv_at hl 2 rfl) ?_
  refine lv_aload_n hx hb dX0_breakOre_25 rfl (lv_at hl 5 rfl) ?_
  refine lv_iload_n hx hb dX0_breakOre_26 rfl (lv_at hl 3 rfl) ?_
  refine x_aald (k := 3) (j := 1) (t0 := 5) (q := o + 5) hE hK hI (by decide) (e_3 G o) rfl rfl (by decide) (by decide) rfl rfl dX0_breakOre_27 ?_
  refine lv_iload hx hb dX0_breakOre_28 (lv_at hl 0 rfl) ?_
  refine x_iald (k := 5) (j := 3) hE hK hI (by decide) (e_5 G o) (by decide) (by decide) rfl dX0_breakOre_30 ?_
  refine lv_topi (fun z9 ez9 => ?_)
  obtain rfl : X 5 3 = z9 := (ez9.trans ((sx_o (by omega)).trans ((sx_o (by omega)).trans ((sx_o (by omega)).trans ((sx_o (by omega))))))).symm
  refine lv_imul hx hb dX0_breakOre_31 ?_
  refine lv_bipush (v := 10) hx hb dX0_breakOre_32 (by decide) ?_
  refine lv_idiv hx hb dX0_breakOre_34 (by decide) ?_
  refine lv_istore (lv' := [(5, .int (((X (15 + 2 * i) 1) * (X 5 3)) / 10)), (4, .int 3), (3, .int (X (15 + 2 * i) 1)), (2, .int 1), (0, .ref (o + (14 + 2 * i))), (1, .ref (o + 3))]) hx hb dX0_breakOre_35 hl (by decide) rfl (fun ls hl => ?_)
  refine lv_aload_n hx hb dX0_breakOre_37 rfl (lv_at hl 4 rfl) ?_
  refine x_get (k := (14 + 2 * i)) hE hK hI (by have := h_i; omega) inG0 (el_14 G o h_i _ _) rfl 0 (by decide) mw_78 rfl dX0_breakOre_38 ?_
  refine lv_iload hx hb dX0_breakOre_41 (lv_at hl 1 rfl) ?_
  refine lv_dup2_11 hx hb dX0_breakOre_43 rfl rfl ?_
  refine x_iald (k := (15 + 2 * i)) (j := 3) hE hK hI (by have := h_i; omega) (em_14 G o h_i) (by decide) (by decide) rfl dX0_breakOre_44 ?_
  refine lv_topi (fun z10 ez10 => ?_)
  obtain rfl : (X (15 + 2 * i) 3) + (((X (15 + 2 * i) 2) * (X 6 3)) / 10) = z10 := (ez10.trans ((sx_o (by omega)).trans ((sx_o (by omega)).trans ((sx_o (by omega)).trans (sx_e))))).symm
  refine lv_iload hx hb dX0_breakOre_45 (lv_at hl 0 rfl) ?_
  refine lv_iadd hx hb dX0_breakOre_47 ?_
  refine x_iast (k := (15 + 2 * i)) (j := 3) hE hK hI (by have := h_i; omega) (em_14 G o h_i) (by decide) (by decide) rfl dX0_breakOre_48 (fun H locs hI => ?_)
  refine lv_aload_n hx hb dX0_breakOre_49 rfl (lv_at hl 4 rfl) ?_
  refine x_get (k := (14 + 2 * i)) hE hK hI (by have := h_i; omega) inG0 (el_14 G o h_i _ _) rfl 0 (by decide) mw_78 rfl dX0_breakOre_50 ?_
  refine lv_iload_n hx hb dX0_breakOre_53 rfl (lv_at hl 3 rfl) ?_
  refine lv_dup2_11 hx hb dX0_breakOre_54 rfl rfl ?_
  refine x_iald (k := (15 + 2 * i)) (j := 1) hE hK hI (by have := h_i; omega) (em_14 G o h_i) (by decide) (by decide) rfl dX0_breakOre_55 ?_
  refine lv_topi (fun z11 ez11 => ?_)
  obtain rfl : (X (15 + 2 * i) 1) - (((X (15 + 2 * i) 1) * (X 5 2)) / 10) = z11 := (ez11.trans ((sx_o (by omega)).trans (sx_e))).symm
  refine lv_iload hx hb dX0_breakOre_56 (lv_at hl 0 rfl) ?_
  refine lv_isub hx hb dX0_breakOre_58 ?_
  refine x_iast (k := (15 + 2 * i)) (j := 1) hE hK hI (by have := h_i; omega) (em_14 G o h_i) (by decide) (by decide) rfl dX0_breakOre_59 (fun H locs hI => ?_)
  refine lv_iinc (v := 4) (lv' := [(4, .int 4), (5, .int (((X (15 + 2 * i) 1) * (X 5 3)) / 10)), (3, .int (X (15 + 2 * i) 1)), (2, .int 1), (0, .ref (o + (14 + 2 * i))), (1, .ref (o + 3))]) hx hb dX0_breakOre_60 hl (k := 1) rfl (by decide) (by decide) rfl (fun ls hl => ?_)
  refine lv_goto (tgt := 18) hx hb dX0_breakOre_63 (by decide) ?_
  refine lv_iload hx hb dX0_breakOre_18 (lv_at hl 0 rfl) ?_
  refine lv_iconst (v := 4) hx hb dX0_breakOre_20 (by decide) ?_
  refine lv_icmp_ge (tgt := 66) hx hb dX0_breakOre_21 (by decide) (fun _ => ?_) (fun q => absurd (by decide) q)
  refine lv_iinc (v := 0) (lv' := [(2, .int 0), (4, .int 4), (5, .int (((X (15 + 2 * i) 1) * (X 5 3)) / 10)), (3, .int (X (15 + 2 * i) 1)), (0, .ref (o + (14 + 2 * i))), (1, .ref (o + 3))]) hx hb dX0_breakOre_66 hl (k := 3) rfl (by decide) (by decide) rfl (fun ls hl => ?_)
  refine lv_goto (tgt := 2) hx hb dX0_breakOre_69 (by decide) ?_
  refine lv_iload_n hx hb dX0_breakOre_2 rfl (lv_at hl 0 rfl) ?_
  refine lv_if_lt (tgt := 72) hx hb dX0_breakOre_3 (by decide) (fun q => absurd q (by decide)) (fun _ => ?_)
  refine lv_aload_n hx hb dX0_breakOre_6 rfl (lv_at hl 4 rfl) ?_
  refine x_get (k := (14 + 2 * i)) hE hK hI (by have := h_i; omega) inG0 (el_14 G o h_i _ _) rfl 0 (by decide) mw_78 rfl dX0_breakOre_7 ?_
  refine lv_iload_n hx hb dX0_breakOre_10 rfl (lv_at hl 0 rfl) ?_
  refine x_iald (k := (15 + 2 * i)) (j := 0) hE hK hI (by have := h_i; omega) (em_14 G o h_i) (by decide) (by decide) rfl dX0_breakOre_11 ?_
  refine lv_topi (fun z12 ez12 => ?_)
  obtain rfl : X (15 + 2 * i) 0 = z12 := (ez12.trans ((sx_o (by omega)).trans ((sx_o (by omega)).trans ((sx_o (by omega)).trans ((sx_o (by omega)).trans ((sx_o (by omega)).trans ((sx_o (by omega))))))))).symm
  refine lv_istore_n (lv' := [(3, .int (X (15 + 2 * i) 0)), (2, .int 0), (4, .int 4), (5, .int (((X (15 + 2 * i) 1) * (X 5 3)) / 10)), (0, .ref (o + (14 + 2 * i))), (1, .ref (o + 3))]) hx hb dX0_breakOre_12 rfl hl (by decide) rfl (fun ls hl => ?_)
  refine lv_iload_n hx hb dX0_breakOre_13 rfl (lv_at hl 1 rfl) ?_
  refine lv_iconst (v := 1) hx hb dX0_breakOre_14 (by decide) ?_
  refine lv_iadd hx hb dX0_breakOre_15 ?_
  refine lv_topi (fun z13 ez13 => ?_)
  obtain rfl : 1 = z13 := (ez13.trans (by decide)).symm
  refine lv_istore (lv' := [(4, .int 1), (3, .int (X (15 + 2 * i) 0)), (2, .int 0), (5, .int (((X (15 + 2 * i) 1) * (X 5 3)) / 10)), (0, .ref (o + (14 + 2 * i))), (1, .ref (o + 3))]) hx hb dX0_breakOre_16 hl (by decide) rfl (fun ls hl => ?_)
  refine lv_iload hx hb dX0_breakOre_18 (lv_at hl 0 rfl) ?_
  refine lv_iconst (v := 4) hx hb dX0_breakOre_20 (by decide) ?_
  refine lv_icmp_ge (tgt := 66) hx hb dX0_breakOre_21 (by decide) (fun q => absurd q (by decide)) (fun _ => ?_)
  refine lv_iload_n hx hb dX0_breakOre_24 rfl (lv_at hl 1 rfl) ?_
  refine lv_aload_n hx hb dX0_breakOre_25 rfl (lv_at hl 5 rfl) ?_
  refine lv_iload_n hx hb dX0_breakOre_26 rfl (lv_at hl 2 rfl) ?_
  refine x_aald (k := 3) (j := 0) (t0 := 5) (q := o + 4) hE hK hI (by decide) (e_3 G o) rfl rfl (by decide) (by decide) rfl rfl dX0_breakOre_27 ?_
  refine lv_iload hx hb dX0_breakOre_28 (lv_at hl 0 rfl) ?_
  refine x_iald (k := 4) (j := 1) hE hK hI (by decide) (e_4 G o) (by decide) (by decide) rfl dX0_breakOre_30 ?_
  refine lv_topi (fun z14 ez14 => ?_)
  obtain rfl : X 4 1 = z14 := (ez14.trans ((sx_o (by omega)).trans ((sx_o (by omega)).trans ((sx_o (by omega)).trans ((sx_o (by omega)).trans ((sx_o (by omega)).trans ((sx_o (by omega))))))))).symm
  refine lv_imul hx hb dX0_breakOre_31 ?_
  refine lv_bipush (v := 10) hx hb dX0_breakOre_32 (by decide) ?_
  refine lv_idiv hx hb dX0_breakOre_34 (by decide) ?_
  refine lv_istore (lv' := [(5, .int (((X (15 + 2 * i) 0) * (X 4 1)) / 10)), (4, .int 1), (3, .int (X (15 + 2 * i) 0)), (2, .int 0), (0, .ref (o + (14 + 2 * i))), (1, .ref (o + 3))]) hx hb dX0_breakOre_35 hl (by decide) rfl (fun ls hl => ?_)
  refine lv_aload_n hx hb dX0_breakOre_37 rfl (lv_at hl 4 rfl) ?_
  refine x_get (k := (14 + 2 * i)) hE hK hI (by have := h_i; omega) inG0 (el_14 G o h_i _ _) rfl 0 (by decide) mw_78 rfl dX0_breakOre_38 ?_
  refine lv_iload hx hb dX0_breakOre_41 (lv_at hl 1 rfl) ?_
  refine lv_dup2_11 hx hb dX0_breakOre_43 rfl rfl ?_
  refine x_iald (k := (15 + 2 * i)) (j := 1) hE hK hI (by have := h_i; omega) (em_14 G o h_i) (by decide) (by decide) rfl dX0_breakOre_44 ?_
  refine lv_topi (fun z15 ez15 => ?_)
  obtain rfl : ((X (15 + 2 * i) 1) - (((X (15 + 2 * i) 1) * (X 5 2)) / 10)) - (((X (15 + 2 * i) 1) * (X 5 3)) / 10) = z15 := (ez15.trans (sx_e)).symm
  refine lv_iload hx hb dX0_breakOre_45 (lv_at hl 0 rfl) ?_
  refine lv_iadd hx hb dX0_breakOre_47 ?_
  refine x_iast (k := (15 + 2 * i)) (j := 1) hE hK hI (by have := h_i; omega) (em_14 G o h_i) (by decide) (by decide) rfl dX0_breakOre_48 (fun H locs hI => ?_)
  refine lv_aload_n hx hb dX0_breakOre_49 rfl (lv_at hl 4 rfl) ?_
  refine x_get (k := (14 + 2 * i)) hE hK hI (by have := h_i; omega) inG0 (el_14 G o h_i _ _) rfl 0 (by decide) mw_78 rfl dX0_breakOre_50 ?_
  refine lv_iload_n hx hb dX0_breakOre_53 rfl (lv_at hl 3 rfl) ?_
  refine lv_dup2_11 hx hb dX0_breakOre_54 rfl rfl ?_
  refine x_iald (k := (15 + 2 * i)) (j := 0) hE hK hI (by have := h_i; omega) (em_14 G o h_i) (by decide) (by decide) rfl dX0_breakOre_55 ?_
  refine lv_topi (fun z16 ez16 => ?_)
  obtain rfl : X (15 + 2 * i) 0 = z16 := (ez16.trans ((sx_o (by omega)).trans ((sx_o (by omega)).trans ((sx_o (by omega)).trans ((sx_o (by omega)).trans ((sx_o (by omega)).trans ((sx_o (by omega)).trans ((sx_o (by omega)))))))))).symm
  refine lv_iload hx hb dX0_breakOre_56 (lv_at hl 0 rfl) ?_
  refine lv_isub hx hb dX0_breakOre_58 ?_
  refine x_iast (k := (15 + 2 * i)) (j := 0) hE hK hI (by have := h_i; omega) (em_14 G o h_i) (by decide) (by decide) rfl dX0_breakOre_59 (fun H locs hI => ?_)
  refine lv_iinc (v := 2) (lv' := [(4, .int 2), (5, .int (((X (15 + 2 * i) 0) * (X 4 1)) / 10)), (3, .int (X (15 + 2 * i) 0)), (2, .int 0), (0, .ref (o + (14 + 2 * i))), (1, .ref (o + 3))]) hx hb dX0_breakOre_60 hl (k := 1) rfl (by decide) (by decide) rfl (fun ls hl => ?_)
  refine lv_goto (tgt := 18) hx hb dX0_breakOre_63 (by decide) ?_
  refine lv_iload hx hb dX0_breakOre_18 (lv_at hl 0 rfl) ?_
  refine lv_iconst (v := 4) hx hb dX0_breakOre_20 (by decide) ?_
  refine lv_icmp_ge (tgt := 66) hx hb dX0_breakOre_21 (by decide) (fun q => absurd q (by decide)) (fun _ => ?_)
  refine lv_iload_n hx hb dX0_breakOre_24 rfl (lv_at hl 2 rfl) ?_
  refine lv_aload_n hx hb dX0_breakOre_25 rfl (lv_at hl 5 rfl) ?_
  refine lv_iload_n hx hb dX0_breakOre_26 rfl (lv_at hl 3 rfl) ?_
  refine x_aald (k := 3) (j := 0) (t0 := 5) (q := o + 4) hE hK hI (by decide) (e_3 G o) rfl rfl (by decide) (by decide) rfl rfl dX0_breakOre_27 ?_
  refine lv_iload hx hb dX0_breakOre_28 (lv_at hl 0 rfl) ?_
  refine x_iald (k := 4) (j := 2) hE hK hI (by decide) (e_4 G o) (by decide) (by decide) rfl dX0_breakOre_30 ?_
  refine lv_topi (fun z17 ez17 => ?_)
  obtain rfl : X 4 2 = z17 := (ez17.trans ((sx_o (by omega)).trans ((sx_o (by omega)).trans ((sx_o (by omega)).trans ((sx_o (by omega)).trans ((sx_o (by omega)).trans ((sx_o (by omega)).trans ((sx_o (by omega)).trans ((sx_o (by omega))))))))))).symm
  refine lv_imul hx hb dX0_breakOre_31 ?_
  refine lv_bipush (v := 10) hx hb dX0_breakOre_32 (by decide) ?_
  refine lv_idiv hx hb dX0_breakOre_34 (by decide) ?_
  refine lv_istore (lv' := [(5, .int (((X (15 + 2 * i) 0) * (X 4 2)) / 10)), (4, .int 2), (3, .int (X (15 + 2 * i) 0)), (2, .int 0), (0, .ref (o + (14 + 2 * i))), (1, .ref (o + 3))]) hx hb dX0_breakOre_35 hl (by decide) rfl (fun ls hl => ?_)
  refine lv_aload_n hx hb dX0_breakOre_37 rfl (lv_at hl 4 rfl) ?_
  refine x_get (k := (14 + 2 * i)) hE hK hI (by have := h_i; omega) inG0 (el_14 G o h_i _ _) rfl 0 (by decide) mw_78 rfl dX0_breakOre_38 ?_
  refine lv_iload hx hb dX0_breakOre_41 (lv_at hl 1 rfl) ?_
  refine lv_dup2_11 hx hb dX0_breakOre_43 rfl rfl ?_
  refine x_iald (k := (15 + 2 * i)) (j := 2) hE hK hI (by have := h_i; omega) (em_14 G o h_i) (by decide) (by decide) rfl dX0_breakOre_44 ?_
  refine lv_topi (fun z18 ez18 => ?_)
  obtain rfl : ((X (15 + 2 * i) 2) - (((X (15 + 2 * i) 2) * (X 6 3)) / 10)) + (((X (15 + 2 * i) 1) * (X 5 2)) / 10) = z18 := (ez18.trans ((sx_o (by omega)).trans ((sx_o (by omega)).trans ((sx_o (by omega)).trans ((sx_o (by omega)).trans ((sx_o (by omega)).trans (sx_e))))))).symm
  refine lv_iload hx hb dX0_breakOre_45 (lv_at hl 0 rfl) ?_
  refine lv_iadd hx hb dX0_breakOre_47 ?_
  refine x_iast (k := (15 + 2 * i)) (j := 2) hE hK hI (by have := h_i; omega) (em_14 G o h_i) (by decide) (by decide) rfl dX0_breakOre_48 (fun H locs hI => ?_)
  refine lv_aload_n hx hb dX0_breakOre_49 rfl (lv_at hl 4 rfl) ?_
  refine x_get (k := (14 + 2 * i)) hE hK hI (by have := h_i; omega) inG0 (el_14 G o h_i _ _) rfl 0 (by decide) mw_78 rfl dX0_breakOre_50 ?_
  refine lv_iload_n hx hb dX0_breakOre_53 rfl (lv_at hl 3 rfl) ?_
  refine lv_dup2_11 hx hb dX0_breakOre_54 rfl rfl ?_
  refine x_iald (k := (15 + 2 * i)) (j := 0) hE hK hI (by have := h_i; omega) (em_14 G o h_i) (by decide) (by decide) rfl dX0_breakOre_55 ?_
  refine lv_topi (fun z19 ez19 => ?_)
  obtain rfl : (X (15 + 2 * i) 0) - (((X (15 + 2 * i) 0) * (X 4 1)) / 10) = z19 := (ez19.trans ((sx_o (by omega)).trans (sx_e))).symm
  refine lv_iload hx hb dX0_breakOre_56 (lv_at hl 0 rfl) ?_
  refine lv_isub hx hb dX0_breakOre_58 ?_
  refine x_iast (k := (15 + 2 * i)) (j := 0) hE hK hI (by have := h_i; omega) (em_14 G o h_i) (by decide) (by decide) rfl dX0_breakOre_59 (fun H locs hI => ?_)
  refine lv_iinc (v := 3) (lv' := [(4, .int 3), (5, .int (((X (15 + 2 * i) 0) * (X 4 2)) / 10)), (3, .int (X (15 + 2 * i) 0)), (2, .int 0), (0, .ref (o + (14 + 2 * i))), (1, .ref (o + 3))]) hx hb dX0_breakOre_60 hl (k := 1) rfl (by decide) (by decide) rfl (fun ls hl => ?_)
  refine lv_goto (tgt := 18) hx hb dX0_breakOre_63 (by decide) ?_
  refine lv_iload hx hb dX0_breakOre_18 (lv_at hl 0 rfl) ?_
  refine lv_iconst (v := 4) hx hb dX0_breakOre_20 (by decide) ?_
  refine lv_icmp_ge (tgt := 66) hx hb dX0_breakOre_21 (by decide) (fun q => absurd q (by decide)) (fun _ => ?_)
  refine lv_iload_n hx hb dX0_breakOre_24 rfl (lv_at hl 2 rfl) ?_
  refine lv_aload_n hx hb dX0_breakOre_25 rfl (lv_at hl 5 rfl) ?_
  refine lv_iload_n hx hb dX0_breakOre_26 rfl (lv_at hl 3 rfl) ?_
  refine x_aald (k := 3) (j := 0) (t0 := 5) (q := o + 4) hE hK hI (by decide) (e_3 G o) rfl rfl (by decide) (by decide) rfl rfl dX0_breakOre_27 ?_
  refine lv_iload hx hb dX0_breakOre_28 (lv_at hl 0 rfl) ?_
  refine x_iald (k := 4) (j := 3) hE hK hI (by decide) (e_4 G o) (by decide) (by decide) rfl dX0_breakOre_30 ?_
  refine lv_topi (fun z20 ez20 => ?_)
  obtain rfl : X 4 3 = z20 := (ez20.trans ((sx_o (by omega)).trans ((sx_o (by omega)).trans ((sx_o (by omega)).trans ((sx_o (by omega)).trans ((sx_o (by omega)).trans ((sx_o (by omega)).trans ((sx_o (by omega)).trans ((sx_o (by omega)).trans ((sx_o (by omega)).trans ((sx_o (by omega))))))))))))).symm
  refine lv_imul hx hb dX0_breakOre_31 ?_
  refine lv_bipush (v := 10) hx hb dX0_breakOre_32 (by decide) ?_
  refine lv_idiv hx hb dX0_breakOre_34 (by decide) ?_
  refine lv_istore (lv' := [(5, .int (((X (15 + 2 * i) 0) * (X 4 3)) / 10)), (4, .int 3), (3, .int (X (15 + 2 * i) 0)), (2, .int 0), (0, .ref (o + (14 + 2 * i))), (1, .ref (o + 3))]) hx hb dX0_breakOre_35 hl (by decide) rfl (fun ls hl => ?_)
  refine lv_aload_n hx hb dX0_breakOre_37 rfl (lv_at hl 4 rfl) ?_
  refine x_get (k := (14 + 2 * i)) hE hK hI (by have := h_i; omega) inG0 (el_14 G o h_i _ _) rfl 0 (by decide) mw_78 rfl dX0_breakOre_38 ?_
  refine lv_iload hx hb dX0_breakOre_41 (lv_at hl 1 rfl) ?_
  refine lv_dup2_11 hx hb dX0_breakOre_43 rfl rfl ?_
  refine x_iald (k := (15 + 2 * i)) (j := 3) hE hK hI (by have := h_i; omega) (em_14 G o h_i) (by decide) (by decide) rfl dX0_breakOre_44 ?_
  refine lv_topi (fun z21 ez21 => ?_)
  obtain rfl : ((X (15 + 2 * i) 3) + (((X (15 + 2 * i) 2) * (X 6 3)) / 10)) + (((X (15 + 2 * i) 1) * (X 5 3)) / 10) = z21 := (ez21.trans ((sx_o (by omega)).trans ((sx_o (by omega)).trans ((sx_o (by omega)).trans ((sx_o (by omega)).trans ((sx_o (by omega)).trans (sx_e))))))).symm
  refine lv_iload hx hb dX0_breakOre_45 (lv_at hl 0 rfl) ?_
  refine lv_iadd hx hb dX0_breakOre_47 ?_
  refine x_iast (k := (15 + 2 * i)) (j := 3) hE hK hI (by have := h_i; omega) (em_14 G o h_i) (by decide) (by decide) rfl dX0_breakOre_48 (fun H locs hI => ?_)
  refine lv_aload_n hx hb dX0_breakOre_49 rfl (lv_at hl 4 rfl) ?_
  refine x_get (k := (14 + 2 * i)) hE hK hI (by have := h_i; omega) inG0 (el_14 G o h_i _ _) rfl 0 (by decide) mw_78 rfl dX0_breakOre_50 ?_
  refine lv_iload_n hx hb dX0_breakOre_53 rfl (lv_at hl 3 rfl) ?_
  refine lv_dup2_11 hx hb dX0_breakOre_54 rfl rfl ?_
  refine x_iald (k := (15 + 2 * i)) (j := 0) hE hK hI (by have := h_i; omega) (em_14 G o h_i) (by decide) (by decide) rfl dX0_breakOre_55 ?_
  refine lv_topi (fun z22 ez22 => ?_)
  obtain rfl : ((X (15 + 2 * i) 0) - (((X (15 + 2 * i) 0) * (X 4 1)) / 10)) - (((X (15 + 2 * i) 0) * (X 4 2)) / 10) = z22 := (ez22.trans ((sx_o (by omega)).trans (sx_e))).symm
  refine lv_iload hx hb dX0_breakOre_56 (lv_at hl 0 rfl) ?_
  refine lv_isub hx hb dX0_breakOre_58 ?_
  refine x_iast (k := (15 + 2 * i)) (j := 0) hE hK hI (by have := h_i; omega) (em_14 G o h_i) (by decide) (by decide) rfl dX0_breakOre_59 (fun H locs hI => ?_)
  refine lv_iinc (v := 4) (lv' := [(4, .int 4), (5, .int (((X (15 + 2 * i) 0) * (X 4 3)) / 10)), (3, .int (X (15 + 2 * i) 0)), (2, .int 0), (0, .ref (o + (14 + 2 * i))), (1, .ref (o + 3))]) hx hb dX0_breakOre_60 hl (k := 1) rfl (by decide) (by decide) rfl (fun ls hl => ?_)
  refine lv_goto (tgt := 18) hx hb dX0_breakOre_63 (by decide) ?_
  refine lv_iload hx hb dX0_breakOre_18 (lv_at hl 0 rfl) ?_
  refine lv_iconst (v := 4) hx hb dX0_breakOre_20 (by decide) ?_
  refine lv_icmp_ge (tgt := 66) hx hb dX0_breakOre_21 (by decide) (fun _ => ?_) (fun q => absurd (by decide) q)
  refine lv_iinc (v := (-1)) (lv' := [(2, .int (-1)), (4, .int 4), (5, .int (((X (15 + 2 * i) 0) * (X 4 3)) / 10)), (3, .int (X (15 + 2 * i) 0)), (0, .ref (o + (14 + 2 * i))), (1, .ref (o + 3))]) hx hb dX0_breakOre_66 hl (k := 3) rfl (by decide) (by decide) rfl (fun ls hl => ?_)
  refine lv_goto (tgt := 2) hx hb dX0_breakOre_69 (by decide) ?_
  refine lv_iload_n hx hb dX0_breakOre_2 rfl (lv_at hl 0 rfl) ?_
  refine lv_if_lt (tgt := 72) hx hb dX0_breakOre_3 (by decide) (fun _ => ?_) (fun q => absurd (by decide) q)
  exact x_vret hE hr hlocks hI rfl rfl rfl dX0_breakOre_72
def clsX (X : SX) (i : Nat) : SX := sx (sx (sx (sx (sx (sx (sx (sx X 13 0 ((X 13 0) + ((X (15 + 2 * i) 0) - (((X (15 + 2 * i) 0) * (X 8 0)) / 10)))) (15 + 2 * i) 0 (((X (15 + 2 * i) 0) * (X 8 0)) / 10)) 13 1 ((X 13 1) + ((X (15 + 2 * i) 1) - (((X (15 + 2 * i) 1) * (X 8 1)) / 10)))) (15 + 2 * i) 1 (((X (15 + 2 * i) 1) * (X 8 1)) / 10)) 13 2 ((X 13 2) + ((X (15 + 2 * i) 2) - (((X (15 + 2 * i) 2) * (X 8 2)) / 10)))) (15 + 2 * i) 2 (((X (15 + 2 * i) 2) * (X 8 2)) / 10)) 13 3 ((X 13 3) + ((X (15 + 2 * i) 3) - (((X (15 + 2 * i) 3) * (X 8 3)) / 10)))) (15 + 2 * i) 3 (((X (15 + 2 * i) 3) * (X 8 3)) / 10)
set_option maxRecDepth 100000 in
set_option maxHeartbeats 4000000 in
theorem c_X0_classify (l : Launch) (G : GG) (o : Nat) (X : SX) (Y : SY) (i : Nat) (h_i : i < 40) : Ct l yX0_classify cX0_classify 5 none 0 0 G o [.ref (o + (14 + 2 * i)), .ref (o + 8), .ref (o + 13)] X Y none (clsX X i) Y := by
  refine Ct.mk (by decide +kernel) (Nat.le_of_ble_eq_true rfl) rfl ?_
  intro p9 e9 s9 m9 args9 below9 meth9 c9 hE hr hlocks hK hI ls hl
  have hx := hE.1
  have hb := hE.2.1
  have hl : lv_has ls 5 [(0, .ref (o + (14 + 2 * i))), (1, .ref (o + 8)), (2, .ref (o + 13))] := hl
  refine lv_iconst (v := 0) hx hb dX0_classify_0 (by decide) ?_
  refine lv_istore_n (lv' := [(3, .int 0), (0, .ref (o + (14 + 2 * i))), (1, .ref (o + 8)), (2, .ref (o + 13))]) hx hb dX0_classify_1 rfl hl (by decide) rfl (fun ls hl => ?_)
  refine lv_iload_n hx hb dX0_classify_2 rfl (lv_at hl 0 rfl) ?_
  refine lv_iconst (v := 4) hx hb dX0_classify_3 (by decide) ?_
  refine lv_icmp_ge (tgt := 51) hx hb dX0_classify_4 (by decide) (fun q => absurd q (by decide)) (fun _ => ?_)
  refine lv_aload_n hx hb dX0_classify_7 rfl (lv_at hl 1 rfl) ?_
  refine x_get (k := (14 + 2 * i)) hE hK hI (by have := h_i; omega) inG0 (el_14 G o h_i _ _) rfl 0 (by decide) mw_78 rfl dX0_classify_8 ?_
  refine lv_iload_n hx hb dX0_classify_11 rfl (lv_at hl 0 rfl) ?_
  refine x_iald (k := (15 + 2 * i)) (j := 0) hE hK hI (by have := h_i; omega) (em_14 G o h_i) (by decide) (by decide) rfl dX0_classify_12 ?_
  refine lv_aload_n hx hb dX0_classify_13 rfl (lv_at hl 2 rfl) ?_
  refine lv_iload_n hx hb dX0_classify_14 rfl (lv_at hl 0 rfl) ?_
  refine x_iald (k := 8) (j := 0) hE hK hI (by decide) (e_8 G o) (by decide) (by decide) rfl dX0_classify_15 ?_
  refine lv_imul hx hb dX0_classify_16 ?_
  refine lv_bipush (v := 10) hx hb dX0_classify_17 (by decide) ?_
  refine lv_idiv hx hb dX0_classify_19 (by decide) ?_
  refine lv_istore (lv' := [(4, .int (((X (15 + 2 * i) 0) * (X 8 0)) / 10)), (3, .int 0), (0, .ref (o + (14 + 2 * i))), (1, .ref (o + 8)), (2, .ref (o + 13))]) hx hb dX0_classify_20 hl (by decide) rfl (fun ls hl => ?_)
  refine lv_aload_n hx hb dX0_classify_22 rfl (lv_at hl 4 rfl) ?_
  refine lv_iload_n hx hb dX0_classify_23 rfl (lv_at hl 1 rfl) ?_
  refine lv_dup2_11 hx hb dX0_classify_24 rfl rfl ?_
  refine x_iald (k := 13) (j := 0) hE hK hI (by decide) (e_13 G o) (by decide) (by decide) rfl dX0_classify_25 ?_
  refine lv_aload_n hx hb dX0_classify_26 rfl (lv_at hl 2 rfl) ?_
  refine x_get (k := (14 + 2 * i)) hE hK hI (by have := h_i; omega) inG0 (el_14 G o h_i _ _) rfl 0 (by decide) mw_78 rfl dX0_classify_27 ?_
  refine lv_iload_n hx hb dX0_classify_30 rfl (lv_at hl 1 rfl) ?_
  refine x_iald (k := (15 + 2 * i)) (j := 0) hE hK hI (by have := h_i; omega) (em_14 G o h_i) (by decide) (by decide) rfl dX0_classify_31 ?_
  refine lv_iload hx hb dX0_classify_32 (lv_at hl 0 rfl) ?_
  refine lv_isub hx hb dX0_classify_34 ?_
  refine lv_iadd hx hb dX0_classify_35 ?_
  refine x_iast (k := 13) (j := 0) hE hK hI (by decide) (e_13 G o) (by decide) (by decide) rfl dX0_classify_36 (fun H locs hI => ?_)
  refine lv_aload_n hx hb dX0_classify_37 rfl (lv_at hl 2 rfl) ?_
  refine x_get (k := (14 + 2 * i)) hE hK hI (by have := h_i; omega) inG0 (el_14 G o h_i _ _) rfl 0 (by decide) mw_78 rfl dX0_classify_38 ?_
  refine lv_iload_n hx hb dX0_classify_41 rfl (lv_at hl 1 rfl) ?_
  refine lv_iload hx hb dX0_classify_42 (lv_at hl 0 rfl) ?_
  refine x_iast (k := (15 + 2 * i)) (j := 0) hE hK hI (by have := h_i; omega) (em_14 G o h_i) (by decide) (by decide) rfl dX0_classify_44 (fun H locs hI => ?_)
  refine lv_iinc (v := 1) (lv' := [(3, .int 1), (4, .int (((X (15 + 2 * i) 0) * (X 8 0)) / 10)), (0, .ref (o + (14 + 2 * i))), (1, .ref (o + 8)), (2, .ref (o + 13))]) hx hb dX0_classify_45 hl (k := 1) rfl (by decide) (by decide) rfl (fun ls hl => ?_)
  refine lv_goto (tgt := 2) hx hb dX0_classify_48 (by decide) ?_
  refine lv_iload_n hx hb dX0_classify_2 rfl (lv_at hl 0 rfl) ?_
  refine lv_iconst (v := 4) hx hb dX0_classify_3 (by decide) ?_
  refine lv_icmp_ge (tgt := 51) hx hb dX0_classify_4 (by decide) (fun q => absurd q (by decide)) (fun _ => ?_)
  refine lv_aload_n hx hb dX0_classify_7 rfl (lv_at hl 2 rfl) ?_
  refine x_get (k := (14 + 2 * i)) hE hK hI (by have := h_i; omega) inG0 (el_14 G o h_i _ _) rfl 0 (by decide) mw_78 rfl dX0_classify_8 ?_
  refine lv_iload_n hx hb dX0_classify_11 rfl (lv_at hl 0 rfl) ?_
  refine x_iald (k := (15 + 2 * i)) (j := 1) hE hK hI (by have := h_i; omega) (em_14 G o h_i) (by decide) (by decide) rfl dX0_classify_12 ?_
  refine lv_topi (fun z1 ez1 => ?_)
  obtain rfl : X (15 + 2 * i) 1 = z1 := (ez1.trans ((sx_o (by omega)).trans ((sx_o (by omega))))).symm
  refine lv_aload_n hx hb dX0_classify_13 rfl (lv_at hl 3 rfl) ?_
  refine lv_iload_n hx hb dX0_classify_14 rfl (lv_at hl 0 rfl) ?_
  refine x_iald (k := 8) (j := 1) hE hK hI (by decide) (e_8 G o) (by decide) (by decide) rfl dX0_classify_15 ?_
  refine lv_topi (fun z2 ez2 => ?_)
  obtain rfl : X 8 1 = z2 := (ez2.trans ((sx_o (by omega)).trans ((sx_o (by decide))))).symm
  refine lv_imul hx hb dX0_classify_16 ?_
  refine lv_bipush (v := 10) hx hb dX0_classify_17 (by decide) ?_
  refine lv_idiv hx hb dX0_classify_19 (by decide) ?_
  refine lv_istore (lv' := [(4, .int (((X (15 + 2 * i) 1) * (X 8 1)) / 10)), (3, .int 1), (0, .ref (o + (14 + 2 * i))), (1, .ref (o + 8)), (2, .ref (o + 13))]) hx hb dX0_classify_20 hl (by decide) rfl (fun ls hl => ?_)
  refine lv_aload_n hx hb dX0_classify_22 rfl (lv_at hl 4 rfl) ?_
  refine lv_iload_n hx hb dX0_classify_23 rfl (lv_at hl 1 rfl) ?_
  refine lv_dup2_11 hx hb dX0_classify_24 rfl rfl ?_
  refine x_iald (k := 13) (j := 1) hE hK hI (by decide) (e_13 G o) (by decide) (by decide) rfl dX0_classify_25 ?_
  refine lv_topi (fun z3 ez3 => ?_)
  obtain rfl : X 13 1 = z3 := (ez3.trans ((sx_o (by omega)).trans ((sx_o (by decide))))).symm
  refine lv_aload_n hx hb dX0_classify_26 rfl (lv_at hl 2 rfl) ?_
  refine x_get (k := (14 + 2 * i)) hE hK hI (by have := h_i; omega) inG0 (el_14 G o h_i _ _) rfl 0 (by decide) mw_78 rfl dX0_classify_27 ?_
  refine lv_iload_n hx hb dX0_classify_30 rfl (lv_at hl 1 rfl) ?_
  refine x_iald (k := (15 + 2 * i)) (j := 1) hE hK hI (by have := h_i; omega) (em_14 G o h_i) (by decide) (by decide) rfl dX0_classify_31 ?_
  refine lv_topi (fun z4 ez4 => ?_)
  obtain rfl : X (15 + 2 * i) 1 = z4 := (ez4.trans ((sx_o (by omega)).trans ((sx_o (by omega))))).symm
  refine lv_iload hx hb dX0_classify_32 (lv_at hl 0 rfl) ?_
  refine lv_isub hx hb dX0_classify_34 ?_
  refine lv_iadd hx hb dX0_classify_35 ?_
  refine x_iast (k := 13) (j := 1) hE hK hI (by decide) (e_13 G o) (by decide) (by decide) rfl dX0_classify_36 (fun H locs hI => ?_)
  refine lv_aload_n hx hb dX0_classify_37 rfl (lv_at hl 2 rfl) ?_
  refine x_get (k := (14 + 2 * i)) hE hK hI (by have := h_i; omega) inG0 (el_14 G o h_i _ _) rfl 0 (by decide) mw_78 rfl dX0_classify_38 ?_
  refine lv_iload_n hx hb dX0_classify_41 rfl (lv_at hl 1 rfl) ?_
  refine lv_iload hx hb dX0_classify_42 (lv_at hl 0 rfl) ?_
  refine x_iast (k := (15 + 2 * i)) (j := 1) hE hK hI (by have := h_i; omega) (em_14 G o h_i) (by decide) (by decide) rfl dX0_classify_44 (fun H locs hI => ?_)
  refine lv_iinc (v := 2) (lv' := [(3, .int 2), (4, .int (((X (15 + 2 * i) 1) * (X 8 1)) / 10)), (0, .ref (o + (14 + 2 * i))), (1, .ref (o + 8)), (2, .ref (o + 13))]) hx hb dX0_classify_45 hl (k := 1) rfl (by decide) (by decide) rfl (fun ls hl => ?_)
  refine lv_goto (tgt := 2) hx hb dX0_classify_48 (by decide) ?_
  refine lv_iload_n hx hb dX0_classify_2 rfl (lv_at hl 0 rfl) ?_
  refine lv_iconst (v := 4) hx hb dX0_classify_3 (by decide) ?_
  refine lv_icmp_ge (tgt := 51) hx hb dX0_classify_4 (by decide) (fun q => absurd q (by decide)) (fun _ => ?_)
  refine lv_aload_n hx hb dX0_classify_7 rfl (lv_at hl 2 rfl) ?_
  refine x_get (k := (14 + 2 * i)) hE hK hI (by have := h_i; omega) inG0 (el_14 G o h_i _ _) rfl 0 (by decide) mw_78 rfl dX0_classify_8 ?_
  refine lv_iload_n hx hb dX0_classify_11 rfl (lv_at hl 0 rfl) ?_
  refine x_iald (k := (15 + 2 * i)) (j := 2) hE hK hI (by have := h_i; omega) (em_14 G o h_i) (by decide) (by decide) rfl dX0_classify_12 ?_
  refine lv_topi (fun z5 ez5 => ?_)
  obtain rfl : X (15 + 2 * i) 2 = z5 := (ez5.trans ((sx_o (by omega)).trans ((sx_o (by omega)).trans ((sx_o (by omega)).trans ((sx_o (by omega))))))).symm
  refine lv_aload_n hx hb dX0_classify_13 rfl (lv_at hl 3 rfl) ?_
  refine lv_iload_n hx hb dX0_classify_14 rfl (lv_at hl 0 rfl) ?_
  refine x_iald (k := 8) (j := 2) hE hK hI (by decide) (e_8 G o) (by decide) (by decide) rfl dX0_classify_15 ?_
  refine lv_topi (fun z6 ez6 => ?_)
  obtain rfl : X 8 2 = z6 := (ez6.trans ((sx_o (by omega)).trans ((sx_o (by decide)).trans ((sx_o (by omega)).trans ((sx_o (by decide))))))).symm
  refine lv_imul hx hb dX0_classify_16 ?_
  refine lv_bipush (v := 10) hx hb dX0_classify_17 (by decide) ?_
  refine lv_idiv hx hb dX0_classify_19 (by decide) ?_
  refine lv_istore (lv' := [(4, .int (((X (15 + 2 * i) 2) * (X 8 2)) / 10)), (3, .int 2), (0, .ref (o + (14 + 2 * i))), (1, .ref (o + 8)), (2, .ref (o + 13))]) hx hb dX0_classify_20 hl (by decide) rfl (fun ls hl => ?_)
  refine lv_aload_n hx hb dX0_classify_22 rfl (lv_at hl 4 rfl) ?_
  refine lv_iload_n hx hb dX0_classify_23 rfl (lv_at hl 1 rfl) ?_
  refine lv_dup2_11 hx hb dX0_classify_24 rfl rfl ?_
  refine x_iald (k := 13) (j := 2) hE hK hI (by decide) (e_13 G o) (by decide) (by decide) rfl dX0_classify_25 ?_
  refine lv_topi (fun z7 ez7 => ?_)
  obtain rfl : X 13 2 = z7 := (ez7.trans ((sx_o (by omega)).trans ((sx_o (by decide)).trans ((sx_o (by omega)).trans ((sx_o (by decide))))))).symm
  refine lv_aload_n hx hb dX0_classify_26 rfl (lv_at hl 2 rfl) ?_
  refine x_get (k := (14 + 2 * i)) hE hK hI (by have := h_i; omega) inG0 (el_14 G o h_i _ _) rfl 0 (by decide) mw_78 rfl dX0_classify_27 ?_
  refine lv_iload_n hx hb dX0_classify_30 rfl (lv_at hl 1 rfl) ?_
  refine x_iald (k := (15 + 2 * i)) (j := 2) hE hK hI (by have := h_i; omega) (em_14 G o h_i) (by decide) (by decide) rfl dX0_classify_31 ?_
  refine lv_topi (fun z8 ez8 => ?_)
  obtain rfl : X (15 + 2 * i) 2 = z8 := (ez8.trans ((sx_o (by omega)).trans ((sx_o (by omega)).trans ((sx_o (by omega)).trans ((sx_o (by omega))))))).symm
  refine lv_iload hx hb dX0_classify_32 (lv_at hl 0 rfl) ?_
  refine lv_isub hx hb dX0_classify_34 ?_
  refine lv_iadd hx hb dX0_classify_35 ?_
  refine x_iast (k := 13) (j := 2) hE hK hI (by decide) (e_13 G o) (by decide) (by decide) rfl dX0_classify_36 (fun H locs hI => ?_)
  refine lv_aload_n hx hb dX0_classify_37 rfl (lv_at hl 2 rfl) ?_
  refine x_get (k := (14 + 2 * i)) hE hK hI (by have := h_i; omega) inG0 (el_14 G o h_i _ _) rfl 0 (by decide) mw_78 rfl dX0_classify_38 ?_
  refine lv_iload_n hx hb dX0_classify_41 rfl (lv_at hl 1 rfl) ?_
  refine lv_iload hx hb dX0_classify_42 (lv_at hl 0 rfl) ?_
  refine x_iast (k := (15 + 2 * i)) (j := 2) hE hK hI (by have := h_i; omega) (em_14 G o h_i) (by decide) (by decide) rfl dX0_classify_44 (fun H locs hI => ?_)
  refine lv_iinc (v := 3) (lv' := [(3, .int 3), (4, .int (((X (15 + 2 * i) 2) * (X 8 2)) / 10)), (0, .ref (o + (14 + 2 * i))), (1, .ref (o + 8)), (2, .ref (o + 13))]) hx hb dX0_classify_45 hl (k := 1) rfl (by decide) (by decide) rfl (fun ls hl => ?_)
  refine lv_goto (tgt := 2) hx hb dX0_classify_48 (by decide) ?_
  refine lv_iload_n hx hb dX0_classify_2 rfl (lv_at hl 0 rfl) ?_
  refine lv_iconst (v := 4) hx hb dX0_classify_3 (by decide) ?_
  refine lv_icmp_ge (tgt := 51) hx hb dX0_classify_4 (by decide) (fun q => absurd q (by decide)) (fun _ => ?_)
  refine lv_aload_n hx hb dX0_classify_7 rfl (lv_at hl 2 rfl) ?_
  refine x_get (k := (14 + 2 * i)) hE hK hI (by have := h_i; omega) inG0 (el_14 G o h_i _ _) rfl 0 (by decide) mw_78 rfl dX0_classify_8 ?_
  refine lv_iload_n hx hb dX0_classify_11 rfl (lv_at hl 0 rfl) ?_
  refine x_iald (k := (15 + 2 * i)) (j := 3) hE hK hI (by have := h_i; omega) (em_14 G o h_i) (by decide) (by decide) rfl dX0_classify_12 ?_
  refine lv_topi (fun z9 ez9 => ?_)
  obtain rfl : X (15 + 2 * i) 3 = z9 := (ez9.trans ((sx_o (by omega)).trans ((sx_o (by omega)).trans ((sx_o (by omega)).trans ((sx_o (by omega)).trans ((sx_o (by omega)).trans ((sx_o (by omega))))))))).symm
  refine lv_aload_n hx hb dX0_classify_13 rfl (lv_at hl 3 rfl) ?_
  refine lv_iload_n hx hb dX0_classify_14 rfl (lv_at hl 0 rfl) ?_
  refine x_iald (k := 8) (j := 3) hE hK hI (by decide) (e_8 G o) (by decide) (by decide) rfl dX0_classify_15 ?_
  refine lv_topi (fun z10 ez10 => ?_)
  obtain rfl : X 8 3 = z10 := (ez10.trans ((sx_o (by omega)).trans ((sx_o (by decide)).trans ((sx_o (by omega)).trans ((sx_o (by decide)).trans ((sx_o (by omega)).trans ((sx_o (by decide))))))))).symm
  refine lv_imul hx hb dX0_classify_16 ?_
  refine lv_bipush (v := 10) hx hb dX0_classify_17 (by decide) ?_
  refine lv_idiv hx hb dX0_classify_19 (by decide) ?_
  refine lv_istore (lv' := [(4, .int (((X (15 + 2 * i) 3) * (X 8 3)) / 10)), (3, .int 3), (0, .ref (o + (14 + 2 * i))), (1, .ref (o + 8)), (2, .ref (o + 13))]) hx hb dX0_classify_20 hl (by decide) rfl (fun ls hl => ?_)
  refine lv_aload_n hx hb dX0_classify_22 rfl (lv_at hl 4 rfl) ?_
  refine lv_iload_n hx hb dX0_classify_23 rfl (lv_at hl 1 rfl) ?_
  refine lv_dup2_11 hx hb dX0_classify_24 rfl rfl ?_
  refine x_iald (k := 13) (j := 3) hE hK hI (by decide) (e_13 G o) (by decide) (by decide) rfl dX0_classify_25 ?_
  refine lv_topi (fun z11 ez11 => ?_)
  obtain rfl : X 13 3 = z11 := (ez11.trans ((sx_o (by omega)).trans ((sx_o (by decide)).trans ((sx_o (by omega)).trans ((sx_o (by decide)).trans ((sx_o (by omega)).trans ((sx_o (by decide))))))))).symm
  refine lv_aload_n hx hb dX0_classify_26 rfl (lv_at hl 2 rfl) ?_
  refine x_get (k := (14 + 2 * i)) hE hK hI (by have := h_i; omega) inG0 (el_14 G o h_i _ _) rfl 0 (by decide) mw_78 rfl dX0_classify_27 ?_
  refine lv_iload_n hx hb dX0_classify_30 rfl (lv_at hl 1 rfl) ?_
  refine x_iald (k := (15 + 2 * i)) (j := 3) hE hK hI (by have := h_i; omega) (em_14 G o h_i) (by decide) (by decide) rfl dX0_classify_31 ?_
  refine lv_topi (fun z12 ez12 => ?_)
  obtain rfl : X (15 + 2 * i) 3 = z12 := (ez12.trans ((sx_o (by omega)).trans ((sx_o (by omega)).trans ((sx_o (by omega)).trans ((sx_o (by omega)).trans ((sx_o (by omega)).trans ((sx_o (by omega))))))))).symm
  refine lv_iload hx hb dX0_classify_32 (lv_at hl 0 rfl) ?_
  refine lv_isub hx hb dX0_classify_34 ?_
  refine lv_iadd hx hb dX0_classify_35 ?_
  refine x_iast (k := 13) (j := 3) hE hK hI (by decide) (e_13 G o) (by decide) (by decide) rfl dX0_classify_36 (fun H locs hI => ?_)
  refine lv_aload_n hx hb dX0_classify_37 rfl (lv_at hl 2 rfl) ?_
  refine x_get (k := (14 + 2 * i)) hE hK hI (by have := h_i; omega) inG0 (el_14 G o h_i _ _) rfl 0 (by decide) mw_78 rfl dX0_classify_38 ?_
  refine lv_iload_n hx hb dX0_classify_41 rfl (lv_at hl 1 rfl) ?_
  refine lv_iload hx hb dX0_classify_42 (lv_at hl 0 rfl) ?_
  refine x_iast (k := (15 + 2 * i)) (j := 3) hE hK hI (by have := h_i; omega) (em_14 G o h_i) (by decide) (by decide) rfl dX0_classify_44 (fun H locs hI => ?_)
  refine lv_iinc (v := 4) (lv' := [(3, .int 4), (4, .int (((X (15 + 2 * i) 3) * (X 8 3)) / 10)), (0, .ref (o + (14 + 2 * i))), (1, .ref (o + 8)), (2, .ref (o + 13))]) hx hb dX0_classify_45 hl (k := 1) rfl (by decide) (by decide) rfl (fun ls hl => ?_)
  refine lv_goto (tgt := 2) hx hb dX0_classify_48 (by decide) ?_
  refine lv_iload_n hx hb dX0_classify_2 rfl (lv_at hl 0 rfl) ?_
  refine lv_iconst (v := 4) hx hb dX0_classify_3 (by decide) ?_
  refine lv_icmp_ge (tgt := 51) hx hb dX0_classify_4 (by decide) (fun _ => ?_) (fun q => absurd (by decide) q)
  exact x_vret hE hr hlocks hI rfl rfl rfl dX0_classify_51
set_option maxRecDepth 100000 in
set_option maxHeartbeats 4000000 in
theorem c_X0_copyFrom_14_108 (l : Launch) (G : GG) (o : Nat) (X : SX) (Y : SY) (i : Nat) (h_i : i < 40) : Ct l yX0_copyFrom cX0_copyFrom 2 none 1 60 G o [.ref (o + (14 + 2 * i)), .ref (o + (108 + 2 * i))] X Y none (sx (sx (sx (sx (cx X (109 + 2 * i) (15 + 2 * i)) (14 + 2 * i) 1 (X (108 + 2 * i) 1)) (14 + 2 * i) 2 (X (108 + 2 * i) 2)) (14 + 2 * i) 3 (X (108 + 2 * i) 3)) (14 + 2 * i) 4 (X (108 + 2 * i) 4)) Y := by
  refine Ct.mk (by decide +kernel) (Nat.le_of_ble_eq_true rfl) rfl ?_
  intro p9 e9 s9 m9 args9 below9 meth9 c9 hE hr hlocks hK hI ls hl
  have hx := hE.1
  have hb := hE.2.1
  have hl : lv_has ls 2 [(0, .ref (o + (14 + 2 * i))), (1, .ref (o + (108 + 2 * i)))] := hl
  refine lv_aload_n hx hb dX0_copyFrom_0 rfl (lv_at hl 1 rfl) ?_
  refine x_get (k := (108 + 2 * i)) hE hK hI (by have := h_i; omega) inG0 (el_108 G o h_i _ _) rfl 0 (by decide) mw_78 rfl dX0_copyFrom_1 ?_
  refine lv_iconst (v := 0) hx hb dX0_copyFrom_4 (by decide) ?_
  refine lv_aload_n hx hb dX0_copyFrom_5 rfl (lv_at hl 0 rfl) ?_
  refine x_get (k := (14 + 2 * i)) hE hK hI (by have := h_i; omega) inG0 (el_14 G o h_i _ _) rfl 0 (by decide) mw_78 rfl dX0_copyFrom_6 ?_
  refine lv_iconst (v := 0) hx hb dX0_copyFrom_9 (by decide) ?_
  refine lv_iconst (v := 4) hx hb dX0_copyFrom_10 (by decide) ?_
  refine x_copy (k0 := (109 + 2 * i)) (k := (15 + 2 * i)) hE hK hI (by have := h_i; omega) (by have := h_i; omega) (em_108 G o h_i) (em_14 G o h_i) (hE.2.2.1.trans hl.1.symm) mw_462 (Nat.le_of_ble_eq_true rfl) (by decide +kernel) dX0_copyFrom_11 (fun H locs hI => ?_)
  refine lv_aload_n hx hb dX0_copyFrom_14 rfl (lv_at hl 0 rfl) ?_
  refine lv_aload_n hx hb dX0_copyFrom_15 rfl (lv_at hl 1 rfl) ?_
  refine x_get (k := (108 + 2 * i)) hE hK hI (by have := h_i; omega) inG0 (el_108 G o h_i _ _) rfl 1 (by decide) mw_81 rfl dX0_copyFrom_16 ?_
  refine lv_topi (fun z1 ez1 => ?_)
  obtain rfl : X (108 + 2 * i) 1 = z1 := (ez1.trans ((cx_o (by omega)))).symm
  refine x_puti (k := (14 + 2 * i)) hE hK hI (by have := h_i; omega) inG0 tyX0 tyX0_ok nmX0 (el_14 G o h_i) rfl 1 (by decide) mw_81 rfl (by decide +kernel) (by exact Nat.le_of_ble_eq_true rfl) rfl dX0_copyFrom_19 (fun H locs hI => ?_)
  refine lv_aload_n hx hb dX0_copyFrom_22 rfl (lv_at hl 0 rfl) ?_
  refine lv_aload_n hx hb dX0_copyFrom_23 rfl (lv_at hl 1 rfl) ?_
  refine x_get (k := (108 + 2 * i)) hE hK hI (by have := h_i; omega) inG0 (el_108 G o h_i _ _) rfl 2 (by decide) mw_84 rfl dX0_copyFrom_24 ?_
  refine lv_topi (fun z2 ez2 => ?_)
  obtain rfl : X (108 + 2 * i) 2 = z2 := (ez2.trans ((sx_o (by omega)).trans ((cx_o (by omega))))).symm
  refine x_puti (k := (14 + 2 * i)) hE hK hI (by have := h_i; omega) inG0 tyX0 tyX0_ok nmX0 (el_14 G o h_i) rfl 2 (by decide) mw_84 rfl (by decide +kernel) (by exact Nat.le_of_ble_eq_true rfl) rfl dX0_copyFrom_27 (fun H locs hI => ?_)
  refine lv_aload_n hx hb dX0_copyFrom_30 rfl (lv_at hl 0 rfl) ?_
  refine lv_aload_n hx hb dX0_copyFrom_31 rfl (lv_at hl 1 rfl) ?_
  refine x_get (k := (108 + 2 * i)) hE hK hI (by have := h_i; omega) inG0 (el_108 G o h_i _ _) rfl 3 (by decide) mw_86 rfl dX0_copyFrom_32 ?_
  refine lv_topi (fun z3 ez3 => ?_)
  obtain rfl : X (108 + 2 * i) 3 = z3 := (ez3.trans ((sx_o (by omega)).trans ((sx_o (by omega)).trans ((cx_o (by omega)))))).symm
  refine x_puti (k := (14 + 2 * i)) hE hK hI (by have := h_i; omega) inG0 tyX0 tyX0_ok nmX0 (el_14 G o h_i) rfl 3 (by decide) mw_86 rfl (by decide +kernel) (by exact Nat.le_of_ble_eq_true rfl) rfl dX0_copyFrom_35 (fun H locs hI => ?_)
  refine lv_aload_n hx hb dX0_copyFrom_38 rfl (lv_at hl 0 rfl) ?_
  refine lv_aload_n hx hb dX0_copyFrom_39 rfl (lv_at hl 1 rfl) ?_
  refine x_get (k := (108 + 2 * i)) hE hK hI (by have := h_i; omega) inG0 (el_108 G o h_i _ _) rfl 4 (by decide) mw_88 rfl dX0_copyFrom_40 ?_
  refine lv_topi (fun z4 ez4 => ?_)
  obtain rfl : X (108 + 2 * i) 4 = z4 := (ez4.trans ((sx_o (by omega)).trans ((sx_o (by omega)).trans ((sx_o (by omega)).trans ((cx_o (by omega))))))).symm
  refine x_puti (k := (14 + 2 * i)) hE hK hI (by have := h_i; omega) inG0 tyX0 tyX0_ok nmX0 (el_14 G o h_i) rfl 4 (by decide) mw_88 rfl (by decide +kernel) (by exact Nat.le_of_ble_eq_true rfl) rfl dX0_copyFrom_43 (fun H locs hI => ?_)
  exact x_vret hE hr hlocks hI rfl rfl rfl dX0_copyFrom_46
set_option maxRecDepth 100000 in
set_option maxHeartbeats 4000000 in
theorem c_X0_copyFrom_14_201 (l : Launch) (G : GG) (o : Nat) (X : SX) (Y : SY) (i : Nat) (h_i : i < 40) : Ct l yX0_copyFrom cX0_copyFrom 2 none 1 60 G o [.ref (o + (14 + 2 * i)), .ref (o + (201 + 2 * i))] X Y none (sx (sx (sx (sx (cx X (202 + 2 * i) (15 + 2 * i)) (14 + 2 * i) 1 (X (201 + 2 * i) 1)) (14 + 2 * i) 2 (X (201 + 2 * i) 2)) (14 + 2 * i) 3 (X (201 + 2 * i) 3)) (14 + 2 * i) 4 (X (201 + 2 * i) 4)) Y := by
  refine Ct.mk (by decide +kernel) (Nat.le_of_ble_eq_true rfl) rfl ?_
  intro p9 e9 s9 m9 args9 below9 meth9 c9 hE hr hlocks hK hI ls hl
  have hx := hE.1
  have hb := hE.2.1
  have hl : lv_has ls 2 [(0, .ref (o + (14 + 2 * i))), (1, .ref (o + (201 + 2 * i)))] := hl
  refine lv_aload_n hx hb dX0_copyFrom_0 rfl (lv_at hl 1 rfl) ?_
  refine x_get (k := (201 + 2 * i)) hE hK hI (by have := h_i; omega) inG0 (el_201 G o h_i _ _) rfl 0 (by decide) mw_78 rfl dX0_copyFrom_1 ?_
  refine lv_iconst (v := 0) hx hb dX0_copyFrom_4 (by decide) ?_
  refine lv_aload_n hx hb dX0_copyFrom_5 rfl (lv_at hl 0 rfl) ?_
  refine x_get (k := (14 + 2 * i)) hE hK hI (by have := h_i; omega) inG0 (el_14 G o h_i _ _) rfl 0 (by decide) mw_78 rfl dX0_copyFrom_6 ?_
  refine lv_iconst (v := 0) hx hb dX0_copyFrom_9 (by decide) ?_
  refine lv_iconst (v := 4) hx hb dX0_copyFrom_10 (by decide) ?_
  refine x_copy (k0 := (202 + 2 * i)) (k := (15 + 2 * i)) hE hK hI (by have := h_i; omega) (by have := h_i; omega) (em_201 G o h_i) (em_14 G o h_i) (hE.2.2.1.trans hl.1.symm) mw_462 (Nat.le_of_ble_eq_true rfl) (by decide +kernel) dX0_copyFrom_11 (fun H locs hI => ?_)
  refine lv_aload_n hx hb dX0_copyFrom_14 rfl (lv_at hl 0 rfl) ?_
  refine lv_aload_n hx hb dX0_copyFrom_15 rfl (lv_at hl 1 rfl) ?_
  refine x_get (k := (201 + 2 * i)) hE hK hI (by have := h_i; omega) inG0 (el_201 G o h_i _ _) rfl 1 (by decide) mw_81 rfl dX0_copyFrom_16 ?_
  refine lv_topi (fun z1 ez1 => ?_)
  obtain rfl : X (201 + 2 * i) 1 = z1 := (ez1.trans ((cx_o (by omega)))).symm
  refine x_puti (k := (14 + 2 * i)) hE hK hI (by have := h_i; omega) inG0 tyX0 tyX0_ok nmX0 (el_14 G o h_i) rfl 1 (by decide) mw_81 rfl (by decide +kernel) (by exact Nat.le_of_ble_eq_true rfl) rfl dX0_copyFrom_19 (fun H locs hI => ?_)
  refine lv_aload_n hx hb dX0_copyFrom_22 rfl (lv_at hl 0 rfl) ?_
  refine lv_aload_n hx hb dX0_copyFrom_23 rfl (lv_at hl 1 rfl) ?_
  refine x_get (k := (201 + 2 * i)) hE hK hI (by have := h_i; omega) inG0 (el_201 G o h_i _ _) rfl 2 (by decide) mw_84 rfl dX0_copyFrom_24 ?_
  refine lv_topi (fun z2 ez2 => ?_)
  obtain rfl : X (201 + 2 * i) 2 = z2 := (ez2.trans ((sx_o (by omega)).trans ((cx_o (by omega))))).symm
  refine x_puti (k := (14 + 2 * i)) hE hK hI (by have := h_i; omega) inG0 tyX0 tyX0_ok nmX0 (el_14 G o h_i) rfl 2 (by decide) mw_84 rfl (by decide +kernel) (by exact Nat.le_of_ble_eq_true rfl) rfl dX0_copyFrom_27 (fun H locs hI => ?_)
  refine lv_aload_n hx hb dX0_copyFrom_30 rfl (lv_at hl 0 rfl) ?_
  refine lv_aload_n hx hb dX0_copyFrom_31 rfl (lv_at hl 1 rfl) ?_
  refine x_get (k := (201 + 2 * i)) hE hK hI (by have := h_i; omega) inG0 (el_201 G o h_i _ _) rfl 3 (by decide) mw_86 rfl dX0_copyFrom_32 ?_
  refine lv_topi (fun z3 ez3 => ?_)
  obtain rfl : X (201 + 2 * i) 3 = z3 := (ez3.trans ((sx_o (by omega)).trans ((sx_o (by omega)).trans ((cx_o (by omega)))))).symm
  refine x_puti (k := (14 + 2 * i)) hE hK hI (by have := h_i; omega) inG0 tyX0 tyX0_ok nmX0 (el_14 G o h_i) rfl 3 (by decide) mw_86 rfl (by decide +kernel) (by exact Nat.le_of_ble_eq_true rfl) rfl dX0_copyFrom_35 (fun H locs hI => ?_)
  refine lv_aload_n hx hb dX0_copyFrom_38 rfl (lv_at hl 0 rfl) ?_
  refine lv_aload_n hx hb dX0_copyFrom_39 rfl (lv_at hl 1 rfl) ?_
  refine x_get (k := (201 + 2 * i)) hE hK hI (by have := h_i; omega) inG0 (el_201 G o h_i _ _) rfl 4 (by decide) mw_88 rfl dX0_copyFrom_40 ?_
  refine lv_topi (fun z4 ez4 => ?_)
  obtain rfl : X (201 + 2 * i) 4 = z4 := (ez4.trans ((sx_o (by omega)).trans ((sx_o (by omega)).trans ((sx_o (by omega)).trans ((cx_o (by omega))))))).symm
  refine x_puti (k := (14 + 2 * i)) hE hK hI (by have := h_i; omega) inG0 tyX0 tyX0_ok nmX0 (el_14 G o h_i) rfl 4 (by decide) mw_88 rfl (by decide +kernel) (by exact Nat.le_of_ble_eq_true rfl) rfl dX0_copyFrom_43 (fun H locs hI => ?_)
  exact x_vret hE hr hlocks hI rfl rfl rfl dX0_copyFrom_46
set_option maxRecDepth 100000 in
set_option maxHeartbeats 4000000 in
theorem c_X0_copyFrom_108_14 (l : Launch) (G : GG) (o : Nat) (X : SX) (Y : SY) (i : Nat) (h_i : i < 40) : Ct l yX0_copyFrom cX0_copyFrom 2 none 1 60 G o [.ref (o + (108 + 2 * i)), .ref (o + (14 + 2 * i))] X Y none (sx (sx (sx (sx (cx X (15 + 2 * i) (109 + 2 * i)) (108 + 2 * i) 1 (X (14 + 2 * i) 1)) (108 + 2 * i) 2 (X (14 + 2 * i) 2)) (108 + 2 * i) 3 (X (14 + 2 * i) 3)) (108 + 2 * i) 4 (X (14 + 2 * i) 4)) Y := by
  refine Ct.mk (by decide +kernel) (Nat.le_of_ble_eq_true rfl) rfl ?_
  intro p9 e9 s9 m9 args9 below9 meth9 c9 hE hr hlocks hK hI ls hl
  have hx := hE.1
  have hb := hE.2.1
  have hl : lv_has ls 2 [(0, .ref (o + (108 + 2 * i))), (1, .ref (o + (14 + 2 * i)))] := hl
  refine lv_aload_n hx hb dX0_copyFrom_0 rfl (lv_at hl 1 rfl) ?_
  refine x_get (k := (14 + 2 * i)) hE hK hI (by have := h_i; omega) inG0 (el_14 G o h_i _ _) rfl 0 (by decide) mw_78 rfl dX0_copyFrom_1 ?_
  refine lv_iconst (v := 0) hx hb dX0_copyFrom_4 (by decide) ?_
  refine lv_aload_n hx hb dX0_copyFrom_5 rfl (lv_at hl 0 rfl) ?_
  refine x_get (k := (108 + 2 * i)) hE hK hI (by have := h_i; omega) inG0 (el_108 G o h_i _ _) rfl 0 (by decide) mw_78 rfl dX0_copyFrom_6 ?_
  refine lv_iconst (v := 0) hx hb dX0_copyFrom_9 (by decide) ?_
  refine lv_iconst (v := 4) hx hb dX0_copyFrom_10 (by decide) ?_
  refine x_copy (k0 := (15 + 2 * i)) (k := (109 + 2 * i)) hE hK hI (by have := h_i; omega) (by have := h_i; omega) (em_14 G o h_i) (em_108 G o h_i) (hE.2.2.1.trans hl.1.symm) mw_462 (Nat.le_of_ble_eq_true rfl) (by decide +kernel) dX0_copyFrom_11 (fun H locs hI => ?_)
  refine lv_aload_n hx hb dX0_copyFrom_14 rfl (lv_at hl 0 rfl) ?_
  refine lv_aload_n hx hb dX0_copyFrom_15 rfl (lv_at hl 1 rfl) ?_
  refine x_get (k := (14 + 2 * i)) hE hK hI (by have := h_i; omega) inG0 (el_14 G o h_i _ _) rfl 1 (by decide) mw_81 rfl dX0_copyFrom_16 ?_
  refine lv_topi (fun z1 ez1 => ?_)
  obtain rfl : X (14 + 2 * i) 1 = z1 := (ez1.trans ((cx_o (by omega)))).symm
  refine x_puti (k := (108 + 2 * i)) hE hK hI (by have := h_i; omega) inG0 tyX0 tyX0_ok nmX0 (el_108 G o h_i) rfl 1 (by decide) mw_81 rfl (by decide +kernel) (by exact Nat.le_of_ble_eq_true rfl) rfl dX0_copyFrom_19 (fun H locs hI => ?_)
  refine lv_aload_n hx hb dX0_copyFrom_22 rfl (lv_at hl 0 rfl) ?_
  refine lv_aload_n hx hb dX0_copyFrom_23 rfl (lv_at hl 1 rfl) ?_
  refine x_get (k := (14 + 2 * i)) hE hK hI (by have := h_i; omega) inG0 (el_14 G o h_i _ _) rfl 2 (by decide) mw_84 rfl dX0_copyFrom_24 ?_
  refine lv_topi (fun z2 ez2 => ?_)
  obtain rfl : X (14 + 2 * i) 2 = z2 := (ez2.trans ((sx_o (by omega)).trans ((cx_o (by omega))))).symm
  refine x_puti (k := (108 + 2 * i)) hE hK hI (by have := h_i; omega) inG0 tyX0 tyX0_ok nmX0 (el_108 G o h_i) rfl 2 (by decide) mw_84 rfl (by decide +kernel) (by exact Nat.le_of_ble_eq_true rfl) rfl dX0_copyFrom_27 (fun H locs hI => ?_)
  refine lv_aload_n hx hb dX0_copyFrom_30 rfl (lv_at hl 0 rfl) ?_
  refine lv_aload_n hx hb dX0_copyFrom_31 rfl (lv_at hl 1 rfl) ?_
  refine x_get (k := (14 + 2 * i)) hE hK hI (by have := h_i; omega) inG0 (el_14 G o h_i _ _) rfl 3 (by decide) mw_86 rfl dX0_copyFrom_32 ?_
  refine lv_topi (fun z3 ez3 => ?_)
  obtain rfl : X (14 + 2 * i) 3 = z3 := (ez3.trans ((sx_o (by omega)).trans ((sx_o (by omega)).trans ((cx_o (by omega)))))).symm
  refine x_puti (k := (108 + 2 * i)) hE hK hI (by have := h_i; omega) inG0 tyX0 tyX0_ok nmX0 (el_108 G o h_i) rfl 3 (by decide) mw_86 rfl (by decide +kernel) (by exact Nat.le_of_ble_eq_true rfl) rfl dX0_copyFrom_35 (fun H locs hI => ?_)
  refine lv_aload_n hx hb dX0_copyFrom_38 rfl (lv_at hl 0 rfl) ?_
  refine lv_aload_n hx hb dX0_copyFrom_39 rfl (lv_at hl 1 rfl) ?_
  refine x_get (k := (14 + 2 * i)) hE hK hI (by have := h_i; omega) inG0 (el_14 G o h_i _ _) rfl 4 (by decide) mw_88 rfl dX0_copyFrom_40 ?_
  refine lv_topi (fun z4 ez4 => ?_)
  obtain rfl : X (14 + 2 * i) 4 = z4 := (ez4.trans ((sx_o (by omega)).trans ((sx_o (by omega)).trans ((sx_o (by omega)).trans ((cx_o (by omega))))))).symm
  refine x_puti (k := (108 + 2 * i)) hE hK hI (by have := h_i; omega) inG0 tyX0 tyX0_ok nmX0 (el_108 G o h_i) rfl 4 (by decide) mw_88 rfl (by decide +kernel) (by exact Nat.le_of_ble_eq_true rfl) rfl dX0_copyFrom_43 (fun H locs hI => ?_)
  exact x_vret hE hr hlocks hI rfl rfl rfl dX0_copyFrom_46
set_option maxRecDepth 100000 in
set_option maxHeartbeats 4000000 in
theorem c_X0_copyFrom_201_14 (l : Launch) (G : GG) (o : Nat) (X : SX) (Y : SY) (i : Nat) (h_i : i < 40) : Ct l yX0_copyFrom cX0_copyFrom 2 none 1 60 G o [.ref (o + (201 + 2 * i)), .ref (o + (14 + 2 * i))] X Y none (sx (sx (sx (sx (cx X (15 + 2 * i) (202 + 2 * i)) (201 + 2 * i) 1 (X (14 + 2 * i) 1)) (201 + 2 * i) 2 (X (14 + 2 * i) 2)) (201 + 2 * i) 3 (X (14 + 2 * i) 3)) (201 + 2 * i) 4 (X (14 + 2 * i) 4)) Y := by
  refine Ct.mk (by decide +kernel) (Nat.le_of_ble_eq_true rfl) rfl ?_
  intro p9 e9 s9 m9 args9 below9 meth9 c9 hE hr hlocks hK hI ls hl
  have hx := hE.1
  have hb := hE.2.1
  have hl : lv_has ls 2 [(0, .ref (o + (201 + 2 * i))), (1, .ref (o + (14 + 2 * i)))] := hl
  refine lv_aload_n hx hb dX0_copyFrom_0 rfl (lv_at hl 1 rfl) ?_
  refine x_get (k := (14 + 2 * i)) hE hK hI (by have := h_i; omega) inG0 (el_14 G o h_i _ _) rfl 0 (by decide) mw_78 rfl dX0_copyFrom_1 ?_
  refine lv_iconst (v := 0) hx hb dX0_copyFrom_4 (by decide) ?_
  refine lv_aload_n hx hb dX0_copyFrom_5 rfl (lv_at hl 0 rfl) ?_
  refine x_get (k := (201 + 2 * i)) hE hK hI (by have := h_i; omega) inG0 (el_201 G o h_i _ _) rfl 0 (by decide) mw_78 rfl dX0_copyFrom_6 ?_
  refine lv_iconst (v := 0) hx hb dX0_copyFrom_9 (by decide) ?_
  refine lv_iconst (v := 4) hx hb dX0_copyFrom_10 (by decide) ?_
  refine x_copy (k0 := (15 + 2 * i)) (k := (202 + 2 * i)) hE hK hI (by have := h_i; omega) (by have := h_i; omega) (em_14 G o h_i) (em_201 G o h_i) (hE.2.2.1.trans hl.1.symm) mw_462 (Nat.le_of_ble_eq_true rfl) (by decide +kernel) dX0_copyFrom_11 (fun H locs hI => ?_)
  refine lv_aload_n hx hb dX0_copyFrom_14 rfl (lv_at hl 0 rfl) ?_
  refine lv_aload_n hx hb dX0_copyFrom_15 rfl (lv_at hl 1 rfl) ?_
  refine x_get (k := (14 + 2 * i)) hE hK hI (by have := h_i; omega) inG0 (el_14 G o h_i _ _) rfl 1 (by decide) mw_81 rfl dX0_copyFrom_16 ?_
  refine lv_topi (fun z1 ez1 => ?_)
  obtain rfl : X (14 + 2 * i) 1 = z1 := (ez1.trans ((cx_o (by omega)))).symm
  refine x_puti (k := (201 + 2 * i)) hE hK hI (by have := h_i; omega) inG0 tyX0 tyX0_ok nmX0 (el_201 G o h_i) rfl 1 (by decide) mw_81 rfl (by decide +kernel) (by exact Nat.le_of_ble_eq_true rfl) rfl dX0_copyFrom_19 (fun H locs hI => ?_)
  refine lv_aload_n hx hb dX0_copyFrom_22 rfl (lv_at hl 0 rfl) ?_
  refine lv_aload_n hx hb dX0_copyFrom_23 rfl (lv_at hl 1 rfl) ?_
  refine x_get (k := (14 + 2 * i)) hE hK hI (by have := h_i; omega) inG0 (el_14 G o h_i _ _) rfl 2 (by decide) mw_84 rfl dX0_copyFrom_24 ?_
  refine lv_topi (fun z2 ez2 => ?_)
  obtain rfl : X (14 + 2 * i) 2 = z2 := (ez2.trans ((sx_o (by omega)).trans ((cx_o (by omega))))).symm
  refine x_puti (k := (201 + 2 * i)) hE hK hI (by have := h_i; omega) inG0 tyX0 tyX0_ok nmX0 (el_201 G o h_i) rfl 2 (by decide) mw_84 rfl (by decide +kernel) (by exact Nat.le_of_ble_eq_true rfl) rfl dX0_copyFrom_27 (fun H locs hI => ?_)
  refine lv_aload_n hx hb dX0_copyFrom_30 rfl (lv_at hl 0 rfl) ?_
  refine lv_aload_n hx hb dX0_copyFrom_31 rfl (lv_at hl 1 rfl) ?_
  refine x_get (k := (14 + 2 * i)) hE hK hI (by have := h_i; omega) inG0 (el_14 G o h_i _ _) rfl 3 (by decide) mw_86 rfl dX0_copyFrom_32 ?_
  refine lv_topi (fun z3 ez3 => ?_)
  obtain rfl : X (14 + 2 * i) 3 = z3 := (ez3.trans ((sx_o (by omega)).trans ((sx_o (by omega)).trans ((cx_o (by omega)))))).symm
  refine x_puti (k := (201 + 2 * i)) hE hK hI (by have := h_i; omega) inG0 tyX0 tyX0_ok nmX0 (el_201 G o h_i) rfl 3 (by decide) mw_86 rfl (by decide +kernel) (by exact Nat.le_of_ble_eq_true rfl) rfl dX0_copyFrom_35 (fun H locs hI => ?_)
  refine lv_aload_n hx hb dX0_copyFrom_38 rfl (lv_at hl 0 rfl) ?_
  refine lv_aload_n hx hb dX0_copyFrom_39 rfl (lv_at hl 1 rfl) ?_
  refine x_get (k := (14 + 2 * i)) hE hK hI (by have := h_i; omega) inG0 (el_14 G o h_i _ _) rfl 4 (by decide) mw_88 rfl dX0_copyFrom_40 ?_
  refine lv_topi (fun z4 ez4 => ?_)
  obtain rfl : X (14 + 2 * i) 4 = z4 := (ez4.trans ((sx_o (by omega)).trans ((sx_o (by omega)).trans ((sx_o (by omega)).trans ((cx_o (by omega))))))).symm
  refine x_puti (k := (201 + 2 * i)) hE hK hI (by have := h_i; omega) inG0 tyX0 tyX0_ok nmX0 (el_201 G o h_i) rfl 4 (by decide) mw_88 rfl (by decide +kernel) (by exact Nat.le_of_ble_eq_true rfl) rfl dX0_copyFrom_43 (fun H locs hI => ?_)
  exact x_vret hE hr hlocks hI rfl rfl rfl dX0_copyFrom_46
end
section
/-! ===== 07: the simulation ===== -/
def nxt (v : Int32) (pl cm : Nat → Int32) : Nat → Int32
  | 0 => v
  | k + 1 => if pl k = 0 then (if cm k < nxt v pl cm k then cm k else nxt v pl cm k) else nxt v pl cm k
def cntP (P : Nat → Prop) [DecidablePred P] : Nat → Nat
  | 0 => 0
  | k + 1 => if P k then cntP P k + 1 else cntP P k
def fndP (P : Nat → Prop) [DecidablePred P] : Nat → Nat → Option Nat
  | 0, _ => none
  | n + 1, i => if P i then some i else fndP P n (i + 1)
def oI (d : Int32) (q : Option Nat) : Int32 := match q with
  | none => d
  | some j => nI j
def fstN (B : Nat → Prop) (R : Nat → Nat → Prop) [DecidablePred B] [∀ a b, Decidable (R a b)] : Nat → Option Nat
  | 0 => none
  | k + 1 => match fstN B R k with
    | none => if B k then some k else none
    | some j => if B k then (if R k j then some k else some j) else some j
theorem fstN_lt {B : Nat → Prop} {R : Nat → Nat → Prop} [DecidablePred B] [∀ a b, Decidable (R a b)] : ∀ (k j : Nat), fstN B R k = some j → j < k
  | 0, j, h => by cases h
  | k + 1, j, h => by
    unfold fstN at h
    cases hq : fstN B R k with
    | none =>
      rw [hq] at h
      dsimp only at h
      split at h
      · cases h; omega
      · cases h
    | some i =>
      rw [hq] at h
      have hi := fstN_lt k i hq
      dsimp only at h
      split at h
      · split at h
        · cases h; omega
        · cases h; omega
      · cases h; omega
theorem nI_nm1 {j : Nat} (h : j < 2 ^ 31) : ¬ nI j = (-1) := fun q => nI_pos h (by rw [q]; decide)
def nxE (X : SX) (cnt : Nat) : Int32 := nxt (if X 11 5 = (-1) then 2147483647 else X 11 6) (fun q => X (14 + 2 * q) 1) (fun q => X (14 + 2 * q) 2) cnt
abbrev pB (X : SX) (i : Nat) : Prop := X (14 + 2 * i) 1 = 1
abbrev bfX (X : SX) (r : Int32) (i j : Nat) : Prop := bef r (X (15 + 2 * i)) (X (14 + 2 * i) 3) (X (15 + 2 * j)) (X (14 + 2 * j) 3)
set_option maxRecDepth 100000 in
set_option maxHeartbeats 4000000 in
theorem c_X3_isFull (l : Launch) (G : GG) (o : Nat) (X : SX) (Y : SY) : Ct l yX3_isFull cX3_isFull 1 (some .boolean) 0 0 G o [.ref (o + 11)] X Y (some (.int (bI (40 ≤ X 11 2)))) X Y := by
  refine Ct.mk (by decide +kernel) (Nat.le_of_ble_eq_true rfl) rfl ?_
  intro p9 e9 s9 m9 args9 below9 meth9 c9 hE hr hlocks hK hI ls hl
  have hx := hE.1
  have hb := hE.2.1
  have hl : lv_has ls 1 [(0, .ref (o + 11))] := hl
  refine lv_aload_n hx hb dX3_isFull_0 rfl (lv_at hl 0 rfl) ?_
  refine x_get (k := 11) hE hK hI (by decide) inG3 (e_11 G o _ _) rfl 2 (by decide) mw_106 rfl dX3_isFull_1 ?_
  refine lv_bipush (v := 40) hx hb dX3_isFull_4 (by decide) ?_
  refine lv_icmp_lt (tgt := 13) hx hb dX3_isFull_6 (by decide) (fun c1 => ?_) (fun c1 => ?_)
  · refine lv_iconst (v := 0) hx hb dX3_isFull_13 (by decide) ?_
    exact x_zret hE hr hlocks hI (by decide) (rI0 (i32_nle c1)) rfl rfl dX3_isFull_14
  · refine lv_iconst (v := 1) hx hb dX3_isFull_9 (by decide) ?_
    refine lv_goto (tgt := 14) hx hb dX3_isFull_10 (by decide) ?_
    exact x_zret hE hr hlocks hI (by decide) (rI1 (i32_le c1)) rfl rfl dX3_isFull_14
set_option maxRecDepth 100000 in
set_option maxHeartbeats 4000000 in
theorem c_X3_isIdle (l : Launch) (G : GG) (o : Nat) (X : SX) (Y : SY) : Ct l yX3_isIdle cX3_isIdle 1 (some .boolean) 0 0 G o [.ref (o + 11)] X Y (some (.int (bI (X 11 5 = (-1))))) X Y := by
  refine Ct.mk (by decide +kernel) (Nat.le_of_ble_eq_true rfl) rfl ?_
  intro p9 e9 s9 m9 args9 below9 meth9 c9 hE hr hlocks hK hI ls hl
  have hx := hE.1
  have hb := hE.2.1
  have hl : lv_has ls 1 [(0, .ref (o + 11))] := hl
  refine lv_aload_n hx hb dX3_isIdle_0 rfl (lv_at hl 0 rfl) ?_
  refine x_get (k := 11) hE hK hI (by decide) inG3 (e_11 G o _ _) rfl 5 (by decide) mw_111 rfl dX3_isIdle_1 ?_
  refine lv_iconst (v := (-1)) hx hb dX3_isIdle_4 (by decide) ?_
  refine lv_icmp_ne (tgt := 12) hx hb dX3_isIdle_5 (by decide) (fun c1 => ?_) (fun c1 => ?_)
  · refine lv_iconst (v := 0) hx hb dX3_isIdle_12 (by decide) ?_
    exact x_zret hE hr hlocks hI (by decide) (rI0 c1) rfl rfl dX3_isIdle_13
  · refine lv_iconst (v := 1) hx hb dX3_isIdle_8 (by decide) ?_
    refine lv_goto (tgt := 13) hx hb dX3_isIdle_9 (by decide) ?_
    exact x_zret hE hr hlocks hI (by decide) (rI1 c1) rfl rfl dX3_isIdle_13
set_option maxRecDepth 100000 in
set_option maxHeartbeats 4000000 in
theorem c_X3_hasLot (l : Launch) (G : GG) (o : Nat) (X : SX) (Y : SY) (v : Int32) : Ct l yX3_hasLot cX3_hasLot 2 (some .boolean) 0 0 G o [.ref (o + 11), .int v] X Y (some (.int (bI (0 ≤ v ∧ v < X 11 2)))) X Y := by
  refine Ct.mk (by decide +kernel) (Nat.le_of_ble_eq_true rfl) rfl ?_
  intro p9 e9 s9 m9 args9 below9 meth9 c9 hE hr hlocks hK hI ls hl
  have hx := hE.1
  have hb := hE.2.1
  have hl : lv_has ls 2 [(0, .ref (o + 11)), (1, .int v)] := hl
  refine lv_iload_n hx hb dX3_hasLot_0 rfl (lv_at hl 1 rfl) ?_
  refine lv_if_lt (tgt := 16) hx hb dX3_hasLot_1 (by decide) (fun c1 => ?_) (fun c1 => ?_)
  · refine lv_iconst (v := 0) hx hb dX3_hasLot_16 (by decide) ?_
    exact x_zret hE hr hlocks hI (by decide) (rI0 (fun q => i32_nle c1 q.1)) rfl rfl dX3_hasLot_17
  · refine lv_iload_n hx hb dX3_hasLot_4 rfl (lv_at hl 1 rfl) ?_
    refine lv_aload_n hx hb dX3_hasLot_5 rfl (lv_at hl 0 rfl) ?_
    refine x_get (k := 11) hE hK hI (by decide) inG3 (e_11 G o _ _) rfl 2 (by decide) mw_106 rfl dX3_hasLot_6 ?_
    refine lv_icmp_ge (tgt := 16) hx hb dX3_hasLot_9 (by decide) (fun c2 => ?_) (fun c2 => ?_)
    · refine lv_iconst (v := 0) hx hb dX3_hasLot_16 (by decide) ?_
      exact x_zret hE hr hlocks hI (by decide) (rI0 (fun q => absurd q.2 (Int32.not_lt.mpr c2))) rfl rfl dX3_hasLot_17
    · refine lv_iconst (v := 1) hx hb dX3_hasLot_12 (by decide) ?_
      refine lv_goto (tgt := 17) hx hb dX3_hasLot_13 (by decide) ?_
      exact x_zret hE hr hlocks hI (by decide) (rI1 ⟨i32_le c1, Int32.not_le.mp c2⟩) rfl rfl dX3_hasLot_17
def crX (X : SX) (a : Int32) (b : Int32) (c : Int32) (d : Int32) (n : Nat) : SX := sx (sx (sx (sx (sx (sx X (15 + 2 * n) 0 a) (15 + 2 * n) 1 b) (15 + 2 * n) 2 c) (15 + 2 * n) 3 d) (14 + 2 * n) 4 0) 11 2 (nI (n + 1))
set_option maxRecDepth 100000 in
set_option maxHeartbeats 4000000 in
theorem c_X3_create (l : Launch) (G : GG) (o : Nat) (X : SX) (Y : SY) (a : Int32) (b : Int32) (c : Int32) (d : Int32) (n : Nat) (hc : X 11 2 = nI n) (h_n : n < 40) : Ct l yX3_create cX3_create 7 (some .int) 0 0 G o [.ref (o + 11), .int a, .int b, .int c, .int d] X Y (some (.int (nI n))) (crX X a b c d n) Y := by
  refine Ct.mk (by decide +kernel) (Nat.le_of_ble_eq_true rfl) rfl ?_
  intro p9 e9 s9 m9 args9 below9 meth9 c9 hE hr hlocks hK hI ls hl
  have hx := hE.1
  have hb := hE.2.1
  have hl : lv_has ls 7 [(0, .ref (o + 11)), (1, .int a), (2, .int b), (3, .int c), (4, .int d)] := hl
  refine lv_aload_n hx hb dX3_create_0 rfl (lv_at hl 0 rfl) ?_
  refine x_get (k := 11) hE hK hI (by decide) inG3 (e_11 G o _ _) rfl 2 (by decide) mw_106 rfl dX3_create_1 ?_
  refine lv_topi (fun z1 ez1 => ?_)
  obtain rfl : nI n = z1 := (ez1.trans (hc)).symm
  refine lv_istore (lv' := [(5, .int (nI n)), (0, .ref (o + 11)), (1, .int a), (2, .int b), (3, .int c), (4, .int d)]) hx hb dX3_create_4 hl (by decide) rfl (fun ls hl => ?_)
  refine lv_aload_n hx hb dX3_create_6 rfl (lv_at hl 1 rfl) ?_
  refine x_get (k := 11) hE hK hI (by decide) inG3 (e_11 G o _ _) rfl 0 (by decide) mw_102 rfl dX3_create_7 ?_
  refine lv_iload hx hb dX3_create_10 (lv_at hl 0 rfl) ?_
  refine x_aald (k := 12) (j := n) (t0 := 3) (q := o + (14 + 2 * n)) hE hK hI (by decide) (e_12 G o) rfl rfl h_n (by decide) rfl (ql_14 h_n) dX3_create_12 ?_
  refine lv_astore (lv' := [(6, .ref (o + (14 + 2 * n))), (5, .int (nI n)), (0, .ref (o + 11)), (1, .int a), (2, .int b), (3, .int c), (4, .int d)]) hx hb dX3_create_13 hl (by decide) rfl (fun ls hl => ?_)
  refine lv_aload hx hb dX3_create_15 (lv_at hl 0 rfl) ?_
  refine x_get (k := (14 + 2 * n)) hE hK hI (by have := h_n; omega) inG0 (el_14 G o h_n _ _) rfl 0 (by decide) mw_79 rfl dX3_create_17 ?_
  refine lv_iconst (v := 0) hx hb dX3_create_20 (by decide) ?_
  refine lv_iload_n hx hb dX3_create_21 rfl (lv_at hl 3 rfl) ?_
  refine x_iast (k := (15 + 2 * n)) (j := 0) hE hK hI (by have := h_n; omega) (em_14 G o h_n) (by decide) (by decide) rfl dX3_create_22 (fun H locs hI => ?_)
  refine lv_aload hx hb dX3_create_23 (lv_at hl 0 rfl) ?_
  refine x_get (k := (14 + 2 * n)) hE hK hI (by have := h_n; omega) inG0 (el_14 G o h_n _ _) rfl 0 (by decide) mw_79 rfl dX3_create_25 ?_
  refine lv_iconst (v := 1) hx hb dX3_create_28 (by decide) ?_
  refine lv_iload_n hx hb dX3_create_29 rfl (lv_at hl 4 rfl) ?_
  refine x_iast (k := (15 + 2 * n)) (j := 1) hE hK hI (by have := h_n; omega) (em_14 G o h_n) (by decide) (by decide) rfl dX3_create_30 (fun H locs hI => ?_)
  refine lv_aload hx hb dX3_create_31 (lv_at hl 0 rfl) ?_
  refine x_get (k := (14 + 2 * n)) hE hK hI (by have := h_n; omega) inG0 (el_14 G o h_n _ _) rfl 0 (by decide) mw_79 rfl dX3_create_33 ?_
  refine lv_iconst (v := 2) hx hb dX3_create_36 (by decide) ?_
  refine lv_iload_n hx hb dX3_create_37 rfl (lv_at hl 5 rfl) ?_
  refine x_iast (k := (15 + 2 * n)) (j := 2) hE hK hI (by have := h_n; omega) (em_14 G o h_n) (by decide) (by decide) rfl dX3_create_38 (fun H locs hI => ?_)
  refine lv_aload hx hb dX3_create_39 (lv_at hl 0 rfl) ?_
  refine x_get (k := (14 + 2 * n)) hE hK hI (by have := h_n; omega) inG0 (el_14 G o h_n _ _) rfl 0 (by decide) mw_79 rfl dX3_create_41 ?_
  refine lv_iconst (v := 3) hx hb dX3_create_44 (by decide) ?_
  refine lv_iload hx hb dX3_create_45 (lv_at hl 6 rfl) ?_
  refine x_iast (k := (15 + 2 * n)) (j := 3) hE hK hI (by have := h_n; omega) (em_14 G o h_n) (by decide) (by decide) rfl dX3_create_47 (fun H locs hI => ?_)
  refine lv_aload hx hb dX3_create_48 (lv_at hl 0 rfl) ?_
  refine lv_iconst (v := 0) hx hb dX3_create_50 (by decide) ?_
  refine x_puti (k := (14 + 2 * n)) hE hK hI (by have := h_n; omega) inG0 tyX0 tyX0_ok nmX0 (el_14 G o h_n) rfl 4 (by decide) mw_89 rfl (by decide +kernel) (by exact Nat.le_of_ble_eq_true rfl) rfl dX3_create_51 (fun H locs hI => ?_)
  refine lv_aload_n hx hb dX3_create_54 rfl (lv_at hl 2 rfl) ?_
  refine lv_dup hx hb dX3_create_55 rfl ?_
  refine x_get (k := 11) hE hK hI (by decide) inG3 (e_11 G o _ _) rfl 2 (by decide) mw_106 rfl dX3_create_56 ?_
  refine lv_topi (fun z2 ez2 => ?_)
  obtain rfl : nI n = z2 := (ez2.trans ((sx_o (by omega)).trans ((sx_o (by omega)).trans ((sx_o (by omega)).trans ((sx_o (by omega)).trans ((sx_o (by omega)).trans (hc))))))).symm
  refine lv_iconst (v := 1) hx hb dX3_create_59 (by decide) ?_
  refine lv_iadd hx hb dX3_create_60 ?_
  refine lv_topi (fun z3 ez3 => ?_)
  obtain rfl : nI (n + 1) = z3 := (ez3.trans (nI_add n 1)).symm
  refine x_puti (k := 11) hE hK hI (by decide) inG3 tyX3 tyX3_ok nmX3 (e_11 G o) rfl 2 (by decide) mw_106 rfl (by decide +kernel) (by exact Nat.le_of_ble_eq_true rfl) rfl dX3_create_61 (fun H locs hI => ?_)
  refine lv_iload hx hb dX3_create_64 (lv_at hl 1 rfl) ?_
  exact x_iret hE hr hlocks hI rfl rfl rfl dX3_create_66
set_option maxRecDepth 100000 in
set_option maxHeartbeats 4000000 in
theorem c_X3_plan (l : Launch) (G : GG) (o : Nat) (X : SX) (Y : SY) (i : Nat) (v : Int32) (h_i : i < 40) : Ct l yX3_plan cX3_plan 3 none 0 0 G o [.ref (o + 11), .ref (o + (14 + 2 * i)), .int v] X Y none (sx (sx X (14 + 2 * i) 1 0) (14 + 2 * i) 2 ((X 11 3) + v)) Y := by
  refine Ct.mk (by decide +kernel) (Nat.le_of_ble_eq_true rfl) rfl ?_
  intro p9 e9 s9 m9 args9 below9 meth9 c9 hE hr hlocks hK hI ls hl
  have hx := hE.1
  have hb := hE.2.1
  have hl : lv_has ls 3 [(0, .ref (o + 11)), (1, .ref (o + (14 + 2 * i))), (2, .int v)] := hl
  refine lv_aload_n hx hb dX3_plan_0 rfl (lv_at hl 1 rfl) ?_
  refine lv_iconst (v := 0) hx hb dX3_plan_1 (by decide) ?_
  refine x_puti (k := (14 + 2 * i)) hE hK hI (by have := h_i; omega) inG0 tyX0 tyX0_ok nmX0 (el_14 G o h_i) rfl 1 (by decide) mw_82 rfl (by decide +kernel) (by exact Nat.le_of_ble_eq_true rfl) rfl dX3_plan_2 (fun H locs hI => ?_)
  refine lv_aload_n hx hb dX3_plan_5 rfl (lv_at hl 1 rfl) ?_
  refine lv_aload_n hx hb dX3_plan_6 rfl (lv_at hl 0 rfl) ?_
  refine x_get (k := 11) hE hK hI (by decide) inG3 (e_11 G o _ _) rfl 3 (by decide) mw_108 rfl dX3_plan_7 ?_
  refine lv_topi (fun z1 ez1 => ?_)
  obtain rfl : X 11 3 = z1 := (ez1.trans ((sx_o (by omega)))).symm
  refine lv_iload_n hx hb dX3_plan_10 rfl (lv_at hl 2 rfl) ?_
  refine lv_iadd hx hb dX3_plan_11 ?_
  refine x_puti (k := (14 + 2 * i)) hE hK hI (by have := h_i; omega) inG0 tyX0 tyX0_ok nmX0 (el_14 G o h_i) rfl 2 (by decide) mw_85 rfl (by decide +kernel) (by exact Nat.le_of_ble_eq_true rfl) rfl dX3_plan_12 (fun H locs hI => ?_)
  exact x_vret hE hr hlocks hI rfl rfl rfl dX3_plan_15
def pbX (X : SX) (i : Nat) : SX := sx (sx (sx X (14 + 2 * i) 1 1) (14 + 2 * i) 3 (X 11 4)) 11 4 ((X 11 4) + 1)
set_option maxRecDepth 100000 in
set_option maxHeartbeats 4000000 in
theorem c_X3_putIntoBin (l : Launch) (G : GG) (o : Nat) (X : SX) (Y : SY) (i : Nat) (h_i : i < 40) : Ct l yX3_putIntoBin cX3_putIntoBin 2 none 0 0 G o [.ref (o + 11), .ref (o + (14 + 2 * i))] X Y none (pbX X i) Y := by
  refine Ct.mk (by decide +kernel) (Nat.le_of_ble_eq_true rfl) rfl ?_
  intro p9 e9 s9 m9 args9 below9 meth9 c9 hE hr hlocks hK hI ls hl
  have hx := hE.1
  have hb := hE.2.1
  have hl : lv_has ls 2 [(0, .ref (o + 11)), (1, .ref (o + (14 + 2 * i)))] := hl
  refine lv_aload_n hx hb dX3_putIntoBin_0 rfl (lv_at hl 1 rfl) ?_
  refine lv_iconst (v := 1) hx hb dX3_putIntoBin_1 (by decide) ?_
  refine x_puti (k := (14 + 2 * i)) hE hK hI (by have := h_i; omega) inG0 tyX0 tyX0_ok nmX0 (el_14 G o h_i) rfl 1 (by decide) mw_82 rfl (by decide +kernel) (by exact Nat.le_of_ble_eq_true rfl) rfl dX3_putIntoBin_2 (fun H locs hI => ?_)
  refine lv_aload_n hx hb dX3_putIntoBin_5 rfl (lv_at hl 1 rfl) ?_
  refine lv_aload_n hx hb dX3_putIntoBin_6 rfl (lv_at hl 0 rfl) ?_
  refine x_get (k := 11) hE hK hI (by decide) inG3 (e_11 G o _ _) rfl 4 (by decide) mw_110 rfl dX3_putIntoBin_7 ?_
  refine lv_topi (fun z1 ez1 => ?_)
  obtain rfl : X 11 4 = z1 := (ez1.trans ((sx_o (by omega)))).symm
  refine x_puti (k := (14 + 2 * i)) hE hK hI (by have := h_i; omega) inG0 tyX0 tyX0_ok nmX0 (el_14 G o h_i) rfl 3 (by decide) mw_87 rfl (by decide +kernel) (by exact Nat.le_of_ble_eq_true rfl) rfl dX3_putIntoBin_10 (fun H locs hI => ?_)
  refine lv_aload_n hx hb dX3_putIntoBin_13 rfl (lv_at hl 0 rfl) ?_
  refine lv_dup hx hb dX3_putIntoBin_14 rfl ?_
  refine x_get (k := 11) hE hK hI (by decide) inG3 (e_11 G o _ _) rfl 4 (by decide) mw_110 rfl dX3_putIntoBin_15 ?_
  refine lv_topi (fun z2 ez2 => ?_)
  obtain rfl : X 11 4 = z2 := (ez2.trans ((sx_o (by omega)).trans ((sx_o (by omega))))).symm
  refine lv_iconst (v := 1) hx hb dX3_putIntoBin_18 (by decide) ?_
  refine lv_iadd hx hb dX3_putIntoBin_19 ?_
  refine x_puti (k := 11) hE hK hI (by decide) inG3 tyX3 tyX3_ok nmX3 (e_11 G o) rfl 4 (by decide) mw_110 rfl (by decide +kernel) (by exact Nat.le_of_ble_eq_true rfl) rfl dX3_putIntoBin_20 (fun H locs hI => ?_)
  exact x_vret hE hr hlocks hI rfl rfl rfl dX3_putIntoBin_23
set_option maxRecDepth 100000 in
set_option maxHeartbeats 4000000 in
theorem lp_X3_nextEvent (l : Launch) (G : GG) (o : Nat) (X : SX) (Y : SY) (cnt : Nat) (hc : X 11 2 = nI cnt) (h40 : cnt ≤ 40) {p9 : Program} {e9 : Env} {s9 : State} {m9 : MethodId} {args9 : Array Value} {below9 : List Frame} {meth9 : Method} {c9 : Code} (hE : gE p9 m9 c9 cX3_nextEvent 4 s9 args9 yX3_nextEvent.cls) (hr : meth9.sig.returnType = (some .int)) (hlocks : meth9.locks = false) (hK : KK G s9) :
    ∀ (n : Nat) (i : Nat), i + n = cnt → ∀ (H : Heap) (locs : List Loc), In G o X Y s9.heap H locs → ∀ ls : Array Slot, lv_has ls 4 [(0, .ref (o + 11)), (1, .int (nxt (if X 11 5 = (-1) then 2147483647 else X 11 6) (fun q => X (14 + 2 * q) 1) (fun q => X (14 + 2 * q) 2) i)), (2, .int (nI i))] → W p9 l e9 (Rm 1 21) s9 m9 args9 below9 meth9 c9 H locs 0 0 (MQ below9 (Qw G o (some (.int (nxE X cnt))) X Y) args9 s9 0 0 (rg o)) (F0 m9 19 ls []) := by
  have hx := hE.1
  have hb := hE.2.1
  intro n
  induction n with
  | zero =>
    intro i hi H locs hI ls hl
    have ei : i = cnt := by omega
    refine lv_iload_n hx hb dX3_nextEvent_19 rfl (lv_at hl 2 rfl) ?_
    refine lv_aload_n hx hb dX3_nextEvent_20 rfl (lv_at hl 0 rfl) ?_
    refine x_get (k := 11) hE hK hI (by decide) inG3 (e_11 G o _ _) rfl 2 (by decide) mw_106 rfl dX3_nextEvent_21 ?_
    refine lv_topi (fun z1 ez1 => ?_)
    obtain rfl : nI cnt = z1 := (ez1.trans (hc)).symm
    refine lv_icmp_ge (tgt := 56) hx hb dX3_nextEvent_24 (by decide) (fun _ => ?_) (fun q => absurd (nI_le (by omega) (by omega)) q)
    refine lv_iload_n hx hb dX3_nextEvent_56 rfl (lv_at hl 1 rfl) ?_
    exact x_iret hE hr hlocks hI (congrArg (fun q => some (Value.int (nxE X q))) ei.symm) rfl rfl dX3_nextEvent_57
  | succ n ih =>
    intro i hi H locs hI ls hl
    have h_i : i < 40 := by omega
    refine lv_iload_n hx hb dX3_nextEvent_19 rfl (lv_at hl 2 rfl) ?_
    refine lv_aload_n hx hb dX3_nextEvent_20 rfl (lv_at hl 0 rfl) ?_
    refine x_get (k := 11) hE hK hI (by decide) inG3 (e_11 G o _ _) rfl 2 (by decide) mw_106 rfl dX3_nextEvent_21 ?_
    refine lv_topi (fun z1 ez1 => ?_)
    obtain rfl : nI cnt = z1 := (ez1.trans (hc)).symm
    refine lv_icmp_ge (tgt := 56) hx hb dX3_nextEvent_24 (by decide) (fun q => absurd q (nI_ge (by omega) (by omega))) (fun _ => ?_)
    refine lv_aload_n hx hb dX3_nextEvent_27 rfl (lv_at hl 0 rfl) ?_
    refine x_get (k := 11) hE hK hI (by decide) inG3 (e_11 G o _ _) rfl 0 (by decide) mw_102 rfl dX3_nextEvent_28 ?_
    refine lv_iload_n hx hb dX3_nextEvent_31 rfl (lv_at hl 2 rfl) ?_
    refine x_aald (k := 12) (j := i) (t0 := 3) (q := o + (14 + 2 * i)) hE hK hI (by decide) (e_12 G o) rfl rfl h_i (by decide) rfl (ql_14 h_i) dX3_nextEvent_32 ?_
    refine lv_astore_n (lv' := [(3, .ref (o + (14 + 2 * i))), (0, .ref (o + 11)), (1, .int (nxt (if X 11 5 = (-1) then 2147483647 else X 11 6) (fun q => X (14 + 2 * q) 1) (fun q => X (14 + 2 * q) 2) i)), (2, .int (nI i))]) hx hb dX3_nextEvent_33 rfl hl (by decide) rfl (fun ls hl => ?_)
    refine lv_aload_n hx hb dX3_nextEvent_34 rfl (lv_at hl 0 rfl) ?_
    refine x_get (k := (14 + 2 * i)) hE hK hI (by have := h_i; omega) inG0 (el_14 G o h_i _ _) rfl 1 (by decide) mw_82 rfl dX3_nextEvent_35 ?_
    refine lv_if_ne (tgt := 50) hx hb dX3_nextEvent_38 (by decide) (fun c2 => ?_) (fun c2 => ?_)
    · refine lv_iinc (v := nI (i + 1)) (lv' := [(2, .int (nI (i + 1))), (3, .ref (o + (14 + 2 * i))), (0, .ref (o + 11)), (1, .int (nxt (if X 11 5 = (-1) then 2147483647 else X 11 6) (fun q => X (14 + 2 * q) 1) (fun q => X (14 + 2 * q) 2) i))]) hx hb dX3_nextEvent_50 hl (k := 3) rfl (nI_add i 1) (by decide) rfl (fun ls hl => ?_)
      refine lv_goto (tgt := 19) hx hb dX3_nextEvent_53 (by decide) ?_
      have ih' := ih (i + 1) (by omega) H locs hI ls
      rw [show nxt (if X 11 5 = (-1) then 2147483647 else X 11 6) (fun q => X (14 + 2 * q) 1) (fun q => X (14 + 2 * q) 2) (i + 1) = nxt (if X 11 5 = (-1) then 2147483647 else X 11 6) (fun q => X (14 + 2 * q) 1) (fun q => X (14 + 2 * q) 2) i from if_neg c2] at ih'
      exact ih' (lv_sub hl [2, 3, 0] rfl)
    · refine lv_iload_n hx hb dX3_nextEvent_41 rfl (lv_at hl 2 rfl) ?_
      refine lv_aload_n hx hb dX3_nextEvent_42 rfl (lv_at hl 0 rfl) ?_
      refine x_get (k := (14 + 2 * i)) hE hK hI (by have := h_i; omega) inG0 (el_14 G o h_i _ _) rfl 2 (by decide) mw_85 rfl dX3_nextEvent_43 ?_
      refine va_mmin hx hb (hE.2.2.1.trans hl.1.symm) hE.2.2.2.1 (hE.2.2.2.2 _ mw_355) (hE.2.2.2.2 _ mw_356) (hE.2.2.2.2 _ mw_8) (hE.2.2.2.2 _ mw_357) (Nat.le_of_ble_eq_true rfl) (Nat.le_of_ble_eq_true rfl) (Nat.le_of_ble_eq_true rfl) (Nat.le_of_ble_eq_true rfl) dX3_nextEvent_46 ?_
      refine lv_istore_n (lv' := [(1, .int (if X (14 + 2 * i) 2 < nxt (if X 11 5 = (-1) then 2147483647 else X 11 6) (fun q => X (14 + 2 * q) 1) (fun q => X (14 + 2 * q) 2) i then X (14 + 2 * i) 2 else nxt (if X 11 5 = (-1) then 2147483647 else X 11 6) (fun q => X (14 + 2 * q) 1) (fun q => X (14 + 2 * q) 2) i)), (3, .ref (o + (14 + 2 * i))), (0, .ref (o + 11)), (2, .int (nI i))]) hx hb dX3_nextEvent_49 rfl hl (by decide) rfl (fun ls hl => ?_)
      refine lv_iinc (v := nI (i + 1)) (lv' := [(2, .int (nI (i + 1))), (1, .int (if X (14 + 2 * i) 2 < nxt (if X 11 5 = (-1) then 2147483647 else X 11 6) (fun q => X (14 + 2 * q) 1) (fun q => X (14 + 2 * q) 2) i then X (14 + 2 * i) 2 else nxt (if X 11 5 = (-1) then 2147483647 else X 11 6) (fun q => X (14 + 2 * q) 1) (fun q => X (14 + 2 * q) 2) i)), (3, .ref (o + (14 + 2 * i))), (0, .ref (o + 11))]) hx hb dX3_nextEvent_50 hl (k := 3) rfl (nI_add i 1) (by decide) rfl (fun ls hl => ?_)
      refine lv_goto (tgt := 19) hx hb dX3_nextEvent_53 (by decide) ?_
      have ih' := ih (i + 1) (by omega) H locs hI ls
      rw [show nxt (if X 11 5 = (-1) then 2147483647 else X 11 6) (fun q => X (14 + 2 * q) 1) (fun q => X (14 + 2 * q) 2) (i + 1) = if X (14 + 2 * i) 2 < nxt (if X 11 5 = (-1) then 2147483647 else X 11 6) (fun q => X (14 + 2 * q) 1) (fun q => X (14 + 2 * q) 2) i then X (14 + 2 * i) 2 else nxt (if X 11 5 = (-1) then 2147483647 else X 11 6) (fun q => X (14 + 2 * q) 1) (fun q => X (14 + 2 * q) 2) i from if_pos c2] at ih'
      exact ih' (lv_sub hl [3, 1, 0] rfl)
set_option maxRecDepth 100000 in
set_option maxHeartbeats 4000000 in
theorem c_X3_nextEvent (l : Launch) (G : GG) (o : Nat) (X : SX) (Y : SY) (cnt : Nat) (hc : X 11 2 = nI cnt) (h40 : cnt ≤ 40) : Ct l yX3_nextEvent cX3_nextEvent 4 (some .int) 1 21 G o [.ref (o + 11)] X Y (some (.int (nxE X cnt))) X Y := by
  refine Ct.mk (by decide +kernel) (Nat.le_of_ble_eq_true rfl) rfl ?_
  intro p9 e9 s9 m9 args9 below9 meth9 c9 hE hr hlocks hK hI ls hl
  have hx := hE.1
  have hb := hE.2.1
  have hl : lv_has ls 4 [(0, .ref (o + 11))] := hl
  refine lv_aload_n hx hb dX3_nextEvent_0 rfl (lv_at hl 0 rfl) ?_
  refine x_callVi (k := 11) hE hK hI (c_X3_isIdle l G o _ _  ) mf_X3_isIdle mw_316 (by decide) ((e_11 G o) _ _) rfl rfl hl.1 rfl (Nat.le_of_ble_eq_true rfl) ⟨(Nat.le_of_ble_eq_true rfl), (Nat.le_of_ble_eq_true rfl)⟩ ⟨Nat.zero_le _, Nat.zero_le _⟩ dX3_nextEvent_1 (fun H locs hI => ?_)
  refine lv_if_eq (tgt := 12) hx hb dX3_nextEvent_4 (by decide) (fun c1 => ?_) (fun c1 => ?_)
  · have c1 := bI_eq0.mp c1
    refine lv_aload_n hx hb dX3_nextEvent_12 rfl (lv_at hl 0 rfl) ?_
    refine x_get (k := 11) hE hK hI (by decide) inG3 (e_11 G o _ _) rfl 6 (by decide) mw_113 rfl dX3_nextEvent_13 ?_
    refine lv_istore_n (lv' := [(1, .int (X 11 6)), (0, .ref (o + 11))]) hx hb dX3_nextEvent_16 rfl hl (by decide) rfl (fun ls hl => ?_)
    refine lv_iconst (v := 0) hx hb dX3_nextEvent_17 (by decide) ?_
    refine lv_istore_n (lv' := [(2, .int 0), (1, .int (X 11 6)), (0, .ref (o + 11))]) hx hb dX3_nextEvent_18 rfl hl (by decide) rfl (fun ls hl => ?_)
    have hl : lv_has ls 4 [(2, .int (nI 0)), (1, .int (nxt (if X 11 5 = (-1) then 2147483647 else X 11 6) (fun q => X (14 + 2 * q) 1) (fun q => X (14 + 2 * q) 2) 0)), (0, .ref (o + 11))] := by
      rw [show nxt (if X 11 5 = (-1) then 2147483647 else X 11 6) (fun q => X (14 + 2 * q) 1) (fun q => X (14 + 2 * q) 2) 0 = X 11 6 from if_neg c1]
      exact hl
    exact lp_X3_nextEvent l G o X Y cnt hc h40 hE hr hlocks hK cnt 0 (by omega) _ _ hI ls (lv_sub hl [2, 1, 0] rfl)
  · have c1 := bI_ne0.mp c1
    refine lv_ldc hx hb hE.2.2.2.1 (hE.2.2.2.2 _ mw_354) dX3_nextEvent_7 ?_
    refine lv_goto (tgt := 16) hx hb dX3_nextEvent_9 (by decide) ?_
    refine lv_istore_n (lv' := [(1, .int 2147483647), (0, .ref (o + 11))]) hx hb dX3_nextEvent_16 rfl hl (by decide) rfl (fun ls hl => ?_)
    refine lv_iconst (v := 0) hx hb dX3_nextEvent_17 (by decide) ?_
    refine lv_istore_n (lv' := [(2, .int 0), (1, .int 2147483647), (0, .ref (o + 11))]) hx hb dX3_nextEvent_18 rfl hl (by decide) rfl (fun ls hl => ?_)
    have hl : lv_has ls 4 [(2, .int (nI 0)), (1, .int (nxt (if X 11 5 = (-1) then 2147483647 else X 11 6) (fun q => X (14 + 2 * q) 1) (fun q => X (14 + 2 * q) 2) 0)), (0, .ref (o + 11))] := by
      rw [show nxt (if X 11 5 = (-1) then 2147483647 else X 11 6) (fun q => X (14 + 2 * q) 1) (fun q => X (14 + 2 * q) 2) 0 = 2147483647 from if_pos c1]
      exact hl
    exact lp_X3_nextEvent l G o X Y cnt hc h40 hE hr hlocks hK cnt 0 (by omega) _ _ hI ls (lv_sub hl [2, 1, 0] rfl)
set_option maxRecDepth 100000 in
set_option maxHeartbeats 4000000 in
theorem lp_X3_countBin (l : Launch) (G : GG) (o : Nat) (X : SX) (Y : SY) (cnt : Nat) (hc : X 11 2 = nI cnt) (h40 : cnt ≤ 40) {p9 : Program} {e9 : Env} {s9 : State} {m9 : MethodId} {args9 : Array Value} {below9 : List Frame} {meth9 : Method} {c9 : Code} (hE : gE p9 m9 c9 cX3_countBin 3 s9 args9 yX3_countBin.cls) (hr : meth9.sig.returnType = (some .int)) (hlocks : meth9.locks = false) (hK : KK G s9) :
    ∀ (n : Nat) (i : Nat), i + n = cnt → ∀ (H : Heap) (locs : List Loc), In G o X Y s9.heap H locs → ∀ ls : Array Slot, lv_has ls 3 [(0, .ref (o + 11)), (1, .int (nI (cntP (pB X) i))), (2, .int (nI i))] → W p9 l e9 (Rm 0 0) s9 m9 args9 below9 meth9 c9 H locs 0 0 (MQ below9 (Qw G o (some (.int (nI (cntP (pB X) cnt)))) X Y) args9 s9 0 0 (rg o)) (F0 m9 4 ls []) := by
  have hx := hE.1
  have hb := hE.2.1
  intro n
  induction n with
  | zero =>
    intro i hi H locs hI ls hl
    have ei : i = cnt := by omega
    refine lv_iload_n hx hb dX3_countBin_4 rfl (lv_at hl 2 rfl) ?_
    refine lv_aload_n hx hb dX3_countBin_5 rfl (lv_at hl 0 rfl) ?_
    refine x_get (k := 11) hE hK hI (by decide) inG3 (e_11 G o _ _) rfl 2 (by decide) mw_106 rfl dX3_countBin_6 ?_
    refine lv_topi (fun z1 ez1 => ?_)
    obtain rfl : nI cnt = z1 := (ez1.trans (hc)).symm
    refine lv_icmp_ge (tgt := 34) hx hb dX3_countBin_9 (by decide) (fun _ => ?_) (fun q => absurd (nI_le (by omega) (by omega)) q)
    refine lv_iload_n hx hb dX3_countBin_34 rfl (lv_at hl 1 rfl) ?_
    exact x_iret hE hr hlocks hI (by rw [ei]) rfl rfl dX3_countBin_35
  | succ n ih =>
    intro i hi H locs hI ls hl
    have h_i : i < 40 := by omega
    refine lv_iload_n hx hb dX3_countBin_4 rfl (lv_at hl 2 rfl) ?_
    refine lv_aload_n hx hb dX3_countBin_5 rfl (lv_at hl 0 rfl) ?_
    refine x_get (k := 11) hE hK hI (by decide) inG3 (e_11 G o _ _) rfl 2 (by decide) mw_106 rfl dX3_countBin_6 ?_
    refine lv_topi (fun z1 ez1 => ?_)
    obtain rfl : nI cnt = z1 := (ez1.trans (hc)).symm
    refine lv_icmp_ge (tgt := 34) hx hb dX3_countBin_9 (by decide) (fun q => absurd q (nI_ge (by omega) (by omega))) (fun _ => ?_)
    refine lv_aload_n hx hb dX3_countBin_12 rfl (lv_at hl 0 rfl) ?_
    refine x_get (k := 11) hE hK hI (by decide) inG3 (e_11 G o _ _) rfl 0 (by decide) mw_102 rfl dX3_countBin_13 ?_
    refine lv_iload_n hx hb dX3_countBin_16 rfl (lv_at hl 2 rfl) ?_
    refine x_aald (k := 12) (j := i) (t0 := 3) (q := o + (14 + 2 * i)) hE hK hI (by decide) (e_12 G o) rfl rfl h_i (by decide) rfl (ql_14 h_i) dX3_countBin_17 ?_
    refine x_get (k := (14 + 2 * i)) hE hK hI (by have := h_i; omega) inG0 (el_14 G o h_i _ _) rfl 1 (by decide) mw_82 rfl dX3_countBin_18 ?_
    refine lv_iconst (v := 1) hx hb dX3_countBin_21 (by decide) ?_
    refine lv_icmp_ne (tgt := 28) hx hb dX3_countBin_22 (by decide) (fun c2 => ?_) (fun c2 => ?_)
    · refine lv_iinc (v := nI (i + 1)) (lv' := [(2, .int (nI (i + 1))), (0, .ref (o + 11)), (1, .int (nI (cntP (pB X) i)))]) hx hb dX3_countBin_28 hl (k := 2) rfl (nI_add i 1) (by decide) rfl (fun ls hl => ?_)
      refine lv_goto (tgt := 4) hx hb dX3_countBin_31 (by decide) ?_
      have ih' := ih (i + 1) (by omega) H locs hI ls
      rw [show cntP (pB X) (i + 1) = cntP (pB X) i from if_neg (fun q => c2 q)] at ih'
      exact ih' (lv_sub hl [1, 2, 0] rfl)
    · refine lv_iinc (v := nI ((cntP (pB X) i) + 1)) (lv' := [(1, .int (nI ((cntP (pB X) i) + 1))), (0, .ref (o + 11)), (2, .int (nI i))]) hx hb dX3_countBin_25 hl (k := 1) rfl (nI_add (cntP (pB X) i) 1) (by decide) rfl (fun ls hl => ?_)
      refine lv_iinc (v := nI (i + 1)) (lv' := [(2, .int (nI (i + 1))), (1, .int (nI ((cntP (pB X) i) + 1))), (0, .ref (o + 11))]) hx hb dX3_countBin_28 hl (k := 2) rfl (nI_add i 1) (by decide) rfl (fun ls hl => ?_)
      refine lv_goto (tgt := 4) hx hb dX3_countBin_31 (by decide) ?_
      have ih' := ih (i + 1) (by omega) H locs hI ls
      rw [show cntP (pB X) (i + 1) = (cntP (pB X) i) + 1 from if_pos c2] at ih'
      exact ih' (lv_sub hl [2, 1, 0] rfl)
set_option maxRecDepth 100000 in
set_option maxHeartbeats 4000000 in
theorem c_X3_countBin (l : Launch) (G : GG) (o : Nat) (X : SX) (Y : SY) (cnt : Nat) (hc : X 11 2 = nI cnt) (h40 : cnt ≤ 40) : Ct l yX3_countBin cX3_countBin 3 (some .int) 0 0 G o [.ref (o + 11)] X Y (some (.int (nI (cntP (pB X) cnt)))) X Y := by
  refine Ct.mk (by decide +kernel) (Nat.le_of_ble_eq_true rfl) rfl ?_
  intro p9 e9 s9 m9 args9 below9 meth9 c9 hE hr hlocks hK hI ls hl
  have hx := hE.1
  have hb := hE.2.1
  have hl : lv_has ls 3 [(0, .ref (o + 11))] := hl
  refine lv_iconst (v := 0) hx hb dX3_countBin_0 (by decide) ?_
  refine lv_istore_n (lv' := [(1, .int 0), (0, .ref (o + 11))]) hx hb dX3_countBin_1 rfl hl (by decide) rfl (fun ls hl => ?_)
  refine lv_iconst (v := 0) hx hb dX3_countBin_2 (by decide) ?_
  refine lv_istore_n (lv' := [(2, .int 0), (1, .int 0), (0, .ref (o + 11))]) hx hb dX3_countBin_3 rfl hl (by decide) rfl (fun ls hl => ?_)
  exact lp_X3_countBin l G o X Y cnt hc h40 hE hr hlocks hK cnt 0 (by omega) _ _ hI ls (lv_sub hl [2, 1, 0] rfl)
set_option maxRecDepth 100000 in
set_option maxHeartbeats 4000000 in
theorem lp_X3_countBefore (l : Launch) (G : GG) (o : Nat) (X : SX) (Y : SY) (j : Nat) (r : Int32) (cnt : Nat) (h_j : j < 40) (hc : X 11 2 = nI cnt) (h40 : cnt ≤ 40) {p9 : Program} {e9 : Env} {s9 : State} {m9 : MethodId} {args9 : Array Value} {below9 : List Frame} {meth9 : Method} {c9 : Code} (hE : gE p9 m9 c9 cX3_countBefore 6 s9 args9 yX3_countBefore.cls) (hr : meth9.sig.returnType = (some .int)) (hlocks : meth9.locks = false) (hK : KK G s9) :
    ∀ (n : Nat) (i : Nat), i + n = cnt → ∀ (H : Heap) (locs : List Loc), In G o X Y s9.heap H locs → ∀ ls : Array Slot, lv_has ls 6 [(0, .ref (o + 11)), (1, .ref (o + (14 + 2 * j))), (2, .int r), (3, .int (nI (cntP (fun q => pB X q ∧ bfX X r q j) i))), (4, .int (nI i))] → W p9 l e9 (Rm 2 48) s9 m9 args9 below9 meth9 c9 H locs 0 0 (MQ below9 (Qw G o (some (.int (nI (cntP (fun q => pB X q ∧ bfX X r q j) cnt)))) X Y) args9 s9 0 0 (rg o)) (F0 m9 5 ls []) := by
  have hx := hE.1
  have hb := hE.2.1
  intro n
  induction n with
  | zero =>
    intro i hi H locs hI ls hl
    have ei : i = cnt := by omega
    refine lv_iload hx hb dX3_countBefore_5 (lv_at hl 4 rfl) ?_
    refine lv_aload_n hx hb dX3_countBefore_7 rfl (lv_at hl 0 rfl) ?_
    refine x_get (k := 11) hE hK hI (by decide) inG3 (e_11 G o _ _) rfl 2 (by decide) mw_106 rfl dX3_countBefore_8 ?_
    refine lv_topi (fun z1 ez1 => ?_)
    obtain rfl : nI cnt = z1 := (ez1.trans (hc)).symm
    refine lv_icmp_ge (tgt := 51) hx hb dX3_countBefore_11 (by decide) (fun _ => ?_) (fun q => absurd (nI_le (by omega) (by omega)) q)
    refine lv_iload_n hx hb dX3_countBefore_51 rfl (lv_at hl 3 rfl) ?_
    exact x_iret hE hr hlocks hI (by rw [ei]) rfl rfl dX3_countBefore_52
  | succ n ih =>
    intro i hi H locs hI ls hl
    have h_i : i < 40 := by omega
    refine lv_iload hx hb dX3_countBefore_5 (lv_at hl 4 rfl) ?_
    refine lv_aload_n hx hb dX3_countBefore_7 rfl (lv_at hl 0 rfl) ?_
    refine x_get (k := 11) hE hK hI (by decide) inG3 (e_11 G o _ _) rfl 2 (by decide) mw_106 rfl dX3_countBefore_8 ?_
    refine lv_topi (fun z1 ez1 => ?_)
    obtain rfl : nI cnt = z1 := (ez1.trans (hc)).symm
    refine lv_icmp_ge (tgt := 51) hx hb dX3_countBefore_11 (by decide) (fun q => absurd q (nI_ge (by omega) (by omega))) (fun _ => ?_)
    refine lv_aload_n hx hb dX3_countBefore_14 rfl (lv_at hl 0 rfl) ?_
    refine x_get (k := 11) hE hK hI (by decide) inG3 (e_11 G o _ _) rfl 0 (by decide) mw_102 rfl dX3_countBefore_15 ?_
    refine lv_iload hx hb dX3_countBefore_18 (lv_at hl 4 rfl) ?_
    refine x_aald (k := 12) (j := i) (t0 := 3) (q := o + (14 + 2 * i)) hE hK hI (by decide) (e_12 G o) rfl rfl h_i (by decide) rfl (ql_14 h_i) dX3_countBefore_20 ?_
    refine lv_astore (lv' := [(5, .ref (o + (14 + 2 * i))), (0, .ref (o + 11)), (1, .ref (o + (14 + 2 * j))), (2, .int r), (3, .int (nI (cntP (fun q => pB X q ∧ bfX X r q j) i))), (4, .int (nI i))]) hx hb dX3_countBefore_21 hl (by decide) rfl (fun ls hl => ?_)
    refine lv_aload hx hb dX3_countBefore_23 (lv_at hl 0 rfl) ?_
    refine x_get (k := (14 + 2 * i)) hE hK hI (by have := h_i; omega) inG0 (el_14 G o h_i _ _) rfl 1 (by decide) mw_82 rfl dX3_countBefore_25 ?_
    refine lv_iconst (v := 1) hx hb dX3_countBefore_28 (by decide) ?_
    refine lv_icmp_ne (tgt := 45) hx hb dX3_countBefore_29 (by decide) (fun c2 => ?_) (fun c2 => ?_)
    · refine lv_iinc (v := nI (i + 1)) (lv' := [(4, .int (nI (i + 1))), (5, .ref (o + (14 + 2 * i))), (0, .ref (o + 11)), (1, .ref (o + (14 + 2 * j))), (2, .int r), (3, .int (nI (cntP (fun q => pB X q ∧ bfX X r q j) i)))]) hx hb dX3_countBefore_45 hl (k := 5) rfl (nI_add i 1) (by decide) rfl (fun ls hl => ?_)
      refine lv_goto (tgt := 5) hx hb dX3_countBefore_48 (by decide) ?_
      have ih' := ih (i + 1) (by omega) H locs hI ls
      rw [show cntP (fun q => pB X q ∧ bfX X r q j) (i + 1) = cntP (fun q => pB X q ∧ bfX X r q j) i from if_neg (fun q => c2 q.1)] at ih'
      exact ih' (lv_sub hl [2, 3, 4, 5, 0] rfl)
    · refine lv_aload hx hb dX3_countBefore_32 (lv_at hl 0 rfl) ?_
      refine lv_aload_n hx hb dX3_countBefore_34 rfl (lv_at hl 2 rfl) ?_
      refine lv_iload_n hx hb dX3_countBefore_35 rfl (lv_at hl 3 rfl) ?_
      refine x_callVi (k := (14 + 2 * i)) hE hK hI (c_X0_standsBefore l G o _ _ i j r h_i h_j) mf_X0_standsBefore mw_324 (by have := h_i; omega) ((el_14 G o h_i) _ _) rfl rfl hl.1 rfl (Nat.le_of_ble_eq_true rfl) ⟨(Nat.le_of_ble_eq_true rfl), (Nat.le_of_ble_eq_true rfl)⟩ ⟨Nat.zero_le _, Nat.zero_le _⟩ dX3_countBefore_36 (fun H locs hI => ?_)
      refine lv_if_eq (tgt := 45) hx hb dX3_countBefore_39 (by decide) (fun c3 => ?_) (fun c3 => ?_)
      · have c3 := bI_eq0.mp c3
        refine lv_iinc (v := nI (i + 1)) (lv' := [(4, .int (nI (i + 1))), (5, .ref (o + (14 + 2 * i))), (0, .ref (o + 11)), (1, .ref (o + (14 + 2 * j))), (2, .int r), (3, .int (nI (cntP (fun q => pB X q ∧ bfX X r q j) i)))]) hx hb dX3_countBefore_45 hl (k := 5) rfl (nI_add i 1) (by decide) rfl (fun ls hl => ?_)
        refine lv_goto (tgt := 5) hx hb dX3_countBefore_48 (by decide) ?_
        have ih' := ih (i + 1) (by omega) H locs hI ls
        rw [show cntP (fun q => pB X q ∧ bfX X r q j) (i + 1) = cntP (fun q => pB X q ∧ bfX X r q j) i from if_neg (fun q => c3 q.2)] at ih'
        exact ih' (lv_sub hl [2, 3, 4, 5, 0] rfl)
      · have c3 := bI_ne0.mp c3
        refine lv_iinc (v := nI ((cntP (fun q => pB X q ∧ bfX X r q j) i) + 1)) (lv' := [(3, .int (nI ((cntP (fun q => pB X q ∧ bfX X r q j) i) + 1))), (5, .ref (o + (14 + 2 * i))), (0, .ref (o + 11)), (1, .ref (o + (14 + 2 * j))), (2, .int r), (4, .int (nI i))]) hx hb dX3_countBefore_42 hl (k := 4) rfl (nI_add (cntP (fun q => pB X q ∧ bfX X r q j) i) 1) (by decide) rfl (fun ls hl => ?_)
        refine lv_iinc (v := nI (i + 1)) (lv' := [(4, .int (nI (i + 1))), (3, .int (nI ((cntP (fun q => pB X q ∧ bfX X r q j) i) + 1))), (5, .ref (o + (14 + 2 * i))), (0, .ref (o + 11)), (1, .ref (o + (14 + 2 * j))), (2, .int r)]) hx hb dX3_countBefore_45 hl (k := 5) rfl (nI_add i 1) (by decide) rfl (fun ls hl => ?_)
        refine lv_goto (tgt := 5) hx hb dX3_countBefore_48 (by decide) ?_
        have ih' := ih (i + 1) (by omega) H locs hI ls
        rw [show cntP (fun q => pB X q ∧ bfX X r q j) (i + 1) = (cntP (fun q => pB X q ∧ bfX X r q j) i) + 1 from if_pos ⟨c2, c3⟩] at ih'
        exact ih' (lv_sub hl [3, 4, 5, 1, 0] rfl)
set_option maxRecDepth 100000 in
set_option maxHeartbeats 4000000 in
theorem c_X3_countBefore (l : Launch) (G : GG) (o : Nat) (X : SX) (Y : SY) (j : Nat) (r : Int32) (cnt : Nat) (h_j : j < 40) (hc : X 11 2 = nI cnt) (h40 : cnt ≤ 40) : Ct l yX3_countBefore cX3_countBefore 6 (some .int) 2 48 G o [.ref (o + 11), .ref (o + (14 + 2 * j)), .int r] X Y (some (.int (nI (cntP (fun q => pB X q ∧ bfX X r q j) cnt)))) X Y := by
  refine Ct.mk (by decide +kernel) (Nat.le_of_ble_eq_true rfl) rfl ?_
  intro p9 e9 s9 m9 args9 below9 meth9 c9 hE hr hlocks hK hI ls hl
  have hx := hE.1
  have hb := hE.2.1
  have hl : lv_has ls 6 [(0, .ref (o + 11)), (1, .ref (o + (14 + 2 * j))), (2, .int r)] := hl
  refine lv_iconst (v := 0) hx hb dX3_countBefore_0 (by decide) ?_
  refine lv_istore_n (lv' := [(3, .int 0), (0, .ref (o + 11)), (1, .ref (o + (14 + 2 * j))), (2, .int r)]) hx hb dX3_countBefore_1 rfl hl (by decide) rfl (fun ls hl => ?_)
  refine lv_iconst (v := 0) hx hb dX3_countBefore_2 (by decide) ?_
  refine lv_istore (lv' := [(4, .int 0), (3, .int 0), (0, .ref (o + 11)), (1, .ref (o + (14 + 2 * j))), (2, .int r)]) hx hb dX3_countBefore_3 hl (by decide) rfl (fun ls hl => ?_)
  exact lp_X3_countBefore l G o X Y j r cnt h_j hc h40 hE hr hlocks hK cnt 0 (by omega) _ _ hI ls (lv_sub hl [2, 3, 4, 1, 0] rfl)
set_option maxRecDepth 100000 in
set_option maxHeartbeats 4000000 in
theorem lp_X3_lotAt (l : Launch) (G : GG) (o : Nat) (X : SX) (Y : SY) (v : Int32) (r : Int32) (cnt : Nat) (hc : X 11 2 = nI cnt) (h40 : cnt ≤ 40) {p9 : Program} {e9 : Env} {s9 : State} {m9 : MethodId} {args9 : Array Value} {below9 : List Frame} {meth9 : Method} {c9 : Code} (hE : gE p9 m9 c9 cX3_lotAt 5 s9 args9 yX3_lotAt.cls) (hr : meth9.sig.returnType = (some .int)) (hlocks : meth9.locks = false) (hK : KK G s9) :
    ∀ (n : Nat) (i : Nat), i + n = cnt → ∀ (H : Heap) (locs : List Loc), In G o X Y s9.heap H locs → ∀ ls : Array Slot, lv_has ls 5 [(0, .ref (o + 11)), (1, .int v), (2, .int r), (3, .int (nI i))] → W p9 l e9 (Rm 3 73) s9 m9 args9 below9 meth9 c9 H locs 0 0 (MQ below9 (Qw G o (some (.int (oI (-1) (fndP (fun a => pB X a ∧ nI (cntP (fun q => pB X q ∧ bfX X r q a) cnt) = v) n i)))) X Y) args9 s9 0 0 (rg o)) (F0 m9 2 ls []) := by
  have hx := hE.1
  have hb := hE.2.1
  intro n
  induction n with
  | zero =>
    intro i hi H locs hI ls hl
    refine lv_iload_n hx hb dX3_lotAt_2 rfl (lv_at hl 3 rfl) ?_
    refine lv_aload_n hx hb dX3_lotAt_3 rfl (lv_at hl 0 rfl) ?_
    refine x_get (k := 11) hE hK hI (by decide) inG3 (e_11 G o _ _) rfl 2 (by decide) mw_106 rfl dX3_lotAt_4 ?_
    refine lv_topi (fun z1 ez1 => ?_)
    obtain rfl : nI cnt = z1 := (ez1.trans (hc)).symm
    refine lv_icmp_ge (tgt := 46) hx hb dX3_lotAt_7 (by decide) (fun _ => ?_) (fun q => absurd (nI_le (by omega) (by omega)) q)
    refine lv_iconst (v := (-1)) hx hb dX3_lotAt_46 (by decide) ?_
    exact x_iret hE hr hlocks hI rfl rfl rfl dX3_lotAt_47
  | succ n ih =>
    intro i hi H locs hI ls hl
    have h_i : i < 40 := by omega
    refine lv_iload_n hx hb dX3_lotAt_2 rfl (lv_at hl 3 rfl) ?_
    refine lv_aload_n hx hb dX3_lotAt_3 rfl (lv_at hl 0 rfl) ?_
    refine x_get (k := 11) hE hK hI (by decide) inG3 (e_11 G o _ _) rfl 2 (by decide) mw_106 rfl dX3_lotAt_4 ?_
    refine lv_topi (fun z1 ez1 => ?_)
    obtain rfl : nI cnt = z1 := (ez1.trans (hc)).symm
    refine lv_icmp_ge (tgt := 46) hx hb dX3_lotAt_7 (by decide) (fun q => absurd q (nI_ge (by omega) (by omega))) (fun _ => ?_)
    refine lv_aload_n hx hb dX3_lotAt_10 rfl (lv_at hl 0 rfl) ?_
    refine x_get (k := 11) hE hK hI (by decide) inG3 (e_11 G o _ _) rfl 0 (by decide) mw_102 rfl dX3_lotAt_11 ?_
    refine lv_iload_n hx hb dX3_lotAt_14 rfl (lv_at hl 3 rfl) ?_
    refine x_aald (k := 12) (j := i) (t0 := 3) (q := o + (14 + 2 * i)) hE hK hI (by decide) (e_12 G o) rfl rfl h_i (by decide) rfl (ql_14 h_i) dX3_lotAt_15 ?_
    refine lv_astore (lv' := [(4, .ref (o + (14 + 2 * i))), (0, .ref (o + 11)), (1, .int v), (2, .int r), (3, .int (nI i))]) hx hb dX3_lotAt_16 hl (by decide) rfl (fun ls hl => ?_)
    refine lv_aload hx hb dX3_lotAt_18 (lv_at hl 0 rfl) ?_
    refine x_get (k := (14 + 2 * i)) hE hK hI (by have := h_i; omega) inG0 (el_14 G o h_i _ _) rfl 1 (by decide) mw_82 rfl dX3_lotAt_20 ?_
    refine lv_iconst (v := 1) hx hb dX3_lotAt_23 (by decide) ?_
    refine lv_icmp_ne (tgt := 40) hx hb dX3_lotAt_24 (by decide) (fun c2 => ?_) (fun c2 => ?_)
    · refine lv_iinc (v := nI (i + 1)) (lv' := [(3, .int (nI (i + 1))), (4, .ref (o + (14 + 2 * i))), (0, .ref (o + 11)), (1, .int v), (2, .int r)]) hx hb dX3_lotAt_40 hl (k := 4) rfl (nI_add i 1) (by decide) rfl (fun ls hl => ?_)
      refine lv_goto (tgt := 2) hx hb dX3_lotAt_43 (by decide) ?_
      have ih' := ih (i + 1) (by omega) H locs hI ls (lv_sub hl [2, 3, 4, 0] rfl)
      rw [← show fndP (fun a => pB X a ∧ nI (cntP (fun q => pB X q ∧ bfX X r q a) cnt) = v) (n + 1) i = fndP (fun a => pB X a ∧ nI (cntP (fun q => pB X q ∧ bfX X r q a) cnt) = v) n (i + 1) from if_neg (fun q => c2 q.1)] at ih'
      exact ih'
    · refine lv_aload_n hx hb dX3_lotAt_27 rfl (lv_at hl 1 rfl) ?_
      refine lv_aload hx hb dX3_lotAt_28 (lv_at hl 0 rfl) ?_
      refine lv_iload_n hx hb dX3_lotAt_30 rfl (lv_at hl 3 rfl) ?_
      refine x_callVi (k := 11) hE hK hI (c_X3_countBefore l G o _ _ i r cnt h_i hc h40) mf_X3_countBefore mw_400 (by decide) ((e_11 G o) _ _) rfl rfl hl.1 rfl (Nat.le_of_ble_eq_true rfl) ⟨(Nat.le_of_ble_eq_true rfl), (Nat.le_of_ble_eq_true rfl)⟩ ⟨Nat.zero_le _, Nat.zero_le _⟩ dX3_lotAt_31 (fun H locs hI => ?_)
      refine lv_iload_n hx hb dX3_lotAt_34 rfl (lv_at hl 2 rfl) ?_
      refine lv_icmp_ne (tgt := 40) hx hb dX3_lotAt_35 (by decide) (fun c3 => ?_) (fun c3 => ?_)
      · refine lv_iinc (v := nI (i + 1)) (lv' := [(3, .int (nI (i + 1))), (4, .ref (o + (14 + 2 * i))), (0, .ref (o + 11)), (1, .int v), (2, .int r)]) hx hb dX3_lotAt_40 hl (k := 4) rfl (nI_add i 1) (by decide) rfl (fun ls hl => ?_)
        refine lv_goto (tgt := 2) hx hb dX3_lotAt_43 (by decide) ?_
        have ih' := ih (i + 1) (by omega) H locs hI ls (lv_sub hl [2, 3, 4, 0] rfl)
        rw [← show fndP (fun a => pB X a ∧ nI (cntP (fun q => pB X q ∧ bfX X r q a) cnt) = v) (n + 1) i = fndP (fun a => pB X a ∧ nI (cntP (fun q => pB X q ∧ bfX X r q a) cnt) = v) n (i + 1) from if_neg (fun q => c3 q.2)] at ih'
        exact ih'
      · refine lv_iload_n hx hb dX3_lotAt_38 rfl (lv_at hl 4 rfl) ?_
        exact x_iret hE hr hlocks hI (congrArg (fun q => some (Value.int (oI (-1) q))) (if_pos ⟨c2, c3⟩)) rfl rfl dX3_lotAt_39
set_option maxRecDepth 100000 in
set_option maxHeartbeats 4000000 in
theorem c_X3_lotAt (l : Launch) (G : GG) (o : Nat) (X : SX) (Y : SY) (v : Int32) (r : Int32) (cnt : Nat) (hc : X 11 2 = nI cnt) (h40 : cnt ≤ 40) : Ct l yX3_lotAt cX3_lotAt 5 (some .int) 3 73 G o [.ref (o + 11), .int v, .int r] X Y (some (.int (oI (-1) (fndP (fun a => pB X a ∧ nI (cntP (fun q => pB X q ∧ bfX X r q a) cnt) = v) cnt 0)))) X Y := by
  refine Ct.mk (by decide +kernel) (Nat.le_of_ble_eq_true rfl) rfl ?_
  intro p9 e9 s9 m9 args9 below9 meth9 c9 hE hr hlocks hK hI ls hl
  have hx := hE.1
  have hb := hE.2.1
  have hl : lv_has ls 5 [(0, .ref (o + 11)), (1, .int v), (2, .int r)] := hl
  refine lv_iconst (v := 0) hx hb dX3_lotAt_0 (by decide) ?_
  refine lv_istore_n (lv' := [(3, .int 0), (0, .ref (o + 11)), (1, .int v), (2, .int r)]) hx hb dX3_lotAt_1 rfl hl (by decide) rfl (fun ls hl => ?_)
  exact lp_X3_lotAt l G o X Y v r cnt hc h40 hE hr hlocks hK cnt 0 (by omega) _ _ hI ls (lv_sub hl [1, 2, 3, 0] rfl)
set_option maxRecDepth 100000 in
set_option maxHeartbeats 4000000 in
theorem lp_X3_firstOfBin (l : Launch) (G : GG) (o : Nat) (X : SX) (Y : SY) (r : Int32) (cnt : Nat) (hc : X 11 2 = nI cnt) (h40 : cnt ≤ 40) {p9 : Program} {e9 : Env} {s9 : State} {m9 : MethodId} {args9 : Array Value} {below9 : List Frame} {meth9 : Method} {c9 : Code} (hE : gE p9 m9 c9 cX3_firstOfBin 5 s9 args9 yX3_firstOfBin.cls) (hr : meth9.sig.returnType = (some .int)) (hlocks : meth9.locks = false) (hK : KK G s9) :
    ∀ (n : Nat) (i : Nat), i + n = cnt → ∀ (H : Heap) (locs : List Loc), In G o X Y s9.heap H locs → ∀ ls : Array Slot, lv_has ls 5 [(0, .ref (o + 11)), (1, .int r), (2, .int (oI (-1) (fstN (pB X) (bfX X r) i))), (3, .int (nI i))] → W p9 l e9 (Rm 2 48) s9 m9 args9 below9 meth9 c9 H locs 0 0 (MQ below9 (Qw G o (some (.int (oI (-1) (fstN (pB X) (bfX X r) cnt)))) X Y) args9 s9 0 0 (rg o)) (F0 m9 4 ls []) := by
  have hx := hE.1
  have hb := hE.2.1
  intro n
  induction n with
  | zero =>
    intro i hi H locs hI ls hl
    have ei : i = cnt := by omega
    refine lv_iload_n hx hb dX3_firstOfBin_4 rfl (lv_at hl 3 rfl) ?_
    refine lv_aload_n hx hb dX3_firstOfBin_5 rfl (lv_at hl 0 rfl) ?_
    refine x_get (k := 11) hE hK hI (by decide) inG3 (e_11 G o _ _) rfl 2 (by decide) mw_106 rfl dX3_firstOfBin_6 ?_
    refine lv_topi (fun z1 ez1 => ?_)
    obtain rfl : nI cnt = z1 := (ez1.trans (hc)).symm
    refine lv_icmp_ge (tgt := 57) hx hb dX3_firstOfBin_9 (by decide) (fun _ => ?_) (fun q => absurd (nI_le (by omega) (by omega)) q)
    refine lv_iload_n hx hb dX3_firstOfBin_57 rfl (lv_at hl 2 rfl) ?_
    exact x_iret hE hr hlocks hI (by rw [ei]) rfl rfl dX3_firstOfBin_58
  | succ n ih =>
    intro i hi H locs hI ls hl
    have h_i : i < 40 := by omega
    cases hq : fstN (pB X) (bfX X r) i with
    | none =>
      rw [hq] at hl
      refine lv_iload_n hx hb dX3_firstOfBin_4 rfl (lv_at hl 3 rfl) ?_
      refine lv_aload_n hx hb dX3_firstOfBin_5 rfl (lv_at hl 0 rfl) ?_
      refine x_get (k := 11) hE hK hI (by decide) inG3 (e_11 G o _ _) rfl 2 (by decide) mw_106 rfl dX3_firstOfBin_6 ?_
      refine lv_topi (fun z1 ez1 => ?_)
      obtain rfl : nI cnt = z1 := (ez1.trans (hc)).symm
      refine lv_icmp_ge (tgt := 57) hx hb dX3_firstOfBin_9 (by decide) (fun q => absurd q (nI_ge (by omega) (by omega))) (fun _ => ?_)
      refine lv_aload_n hx hb dX3_firstOfBin_12 rfl (lv_at hl 0 rfl) ?_
      refine x_get (k := 11) hE hK hI (by decide) inG3 (e_11 G o _ _) rfl 0 (by decide) mw_102 rfl dX3_firstOfBin_13 ?_
      refine lv_iload_n hx hb dX3_firstOfBin_16 rfl (lv_at hl 3 rfl) ?_
      refine x_aald (k := 12) (j := i) (t0 := 3) (q := o + (14 + 2 * i)) hE hK hI (by decide) (e_12 G o) rfl rfl h_i (by decide) rfl (ql_14 h_i) dX3_firstOfBin_17 ?_
      refine lv_astore (lv' := [(4, .ref (o + (14 + 2 * i))), (0, .ref (o + 11)), (1, .int r), (2, .int (-1)), (3, .int (nI i))]) hx hb dX3_firstOfBin_18 hl (by decide) rfl (fun ls hl => ?_)
      refine lv_aload hx hb dX3_firstOfBin_20 (lv_at hl 0 rfl) ?_
      refine x_get (k := (14 + 2 * i)) hE hK hI (by have := h_i; omega) inG0 (el_14 G o h_i _ _) rfl 1 (by decide) mw_82 rfl dX3_firstOfBin_22 ?_
      refine lv_iconst (v := 1) hx hb dX3_firstOfBin_25 (by decide) ?_
      refine lv_icmp_ne (tgt := 51) hx hb dX3_firstOfBin_26 (by decide) (fun c2 => ?_) (fun c2 => ?_)
      · refine lv_iinc (v := nI (i + 1)) (lv' := [(3, .int (nI (i + 1))), (4, .ref (o + (14 + 2 * i))), (0, .ref (o + 11)), (1, .int r), (2, .int (-1))]) hx hb dX3_firstOfBin_51 hl (k := 4) rfl (nI_add i 1) (by decide) rfl (fun ls hl => ?_)
        refine lv_goto (tgt := 4) hx hb dX3_firstOfBin_54 (by decide) ?_
        have ih' := ih (i + 1) (by omega) H locs hI ls
        rw [show fstN (pB X) (bfX X r) (i + 1) = none by (unfold fstN; rw [hq]; dsimp only; rw [if_neg c2])] at ih'
        exact ih' (lv_sub hl [2, 3, 4, 0] rfl)
      · refine lv_iload_n hx hb dX3_firstOfBin_29 rfl (lv_at hl 3 rfl) ?_
        refine lv_iconst (v := (-1)) hx hb dX3_firstOfBin_30 (by decide) ?_
        refine lv_icmp_eq (tgt := 49) hx hb dX3_firstOfBin_31 (by decide) (fun _ => ?_) (fun q => absurd (by decide) q)
        refine lv_iload_n hx hb dX3_firstOfBin_49 rfl (lv_at hl 4 rfl) ?_
        refine lv_istore_n (lv' := [(2, .int (nI i)), (4, .ref (o + (14 + 2 * i))), (0, .ref (o + 11)), (1, .int r), (3, .int (nI i))]) hx hb dX3_firstOfBin_50 rfl hl (by decide) rfl (fun ls hl => ?_)
        refine lv_iinc (v := nI (i + 1)) (lv' := [(3, .int (nI (i + 1))), (2, .int (nI i)), (4, .ref (o + (14 + 2 * i))), (0, .ref (o + 11)), (1, .int r)]) hx hb dX3_firstOfBin_51 hl (k := 4) rfl (nI_add i 1) (by decide) rfl (fun ls hl => ?_)
        refine lv_goto (tgt := 4) hx hb dX3_firstOfBin_54 (by decide) ?_
        have ih' := ih (i + 1) (by omega) H locs hI ls
        rw [show fstN (pB X) (bfX X r) (i + 1) = some i by (unfold fstN; rw [hq]; dsimp only; rw [if_pos c2])] at ih'
        exact ih' (lv_sub hl [3, 4, 1, 0] rfl)
    | some j =>
      rw [hq] at hl
      have h_j : j < 40 := Nat.lt_trans (fstN_lt _ _ hq) h_i
      have hjn : ¬ nI j = (-1) := nI_nm1 (by omega)
      refine lv_iload_n hx hb dX3_firstOfBin_4 rfl (lv_at hl 3 rfl) ?_
      refine lv_aload_n hx hb dX3_firstOfBin_5 rfl (lv_at hl 0 rfl) ?_
      refine x_get (k := 11) hE hK hI (by decide) inG3 (e_11 G o _ _) rfl 2 (by decide) mw_106 rfl dX3_firstOfBin_6 ?_
      refine lv_topi (fun z1 ez1 => ?_)
      obtain rfl : nI cnt = z1 := (ez1.trans (hc)).symm
      refine lv_icmp_ge (tgt := 57) hx hb dX3_firstOfBin_9 (by decide) (fun q => absurd q (nI_ge (by omega) (by omega))) (fun _ => ?_)
      refine lv_aload_n hx hb dX3_firstOfBin_12 rfl (lv_at hl 0 rfl) ?_
      refine x_get (k := 11) hE hK hI (by decide) inG3 (e_11 G o _ _) rfl 0 (by decide) mw_102 rfl dX3_firstOfBin_13 ?_
      refine lv_iload_n hx hb dX3_firstOfBin_16 rfl (lv_at hl 3 rfl) ?_
      refine x_aald (k := 12) (j := i) (t0 := 3) (q := o + (14 + 2 * i)) hE hK hI (by decide) (e_12 G o) rfl rfl h_i (by decide) rfl (ql_14 h_i) dX3_firstOfBin_17 ?_
      refine lv_astore (lv' := [(4, .ref (o + (14 + 2 * i))), (0, .ref (o + 11)), (1, .int r), (2, .int (nI j)), (3, .int (nI i))]) hx hb dX3_firstOfBin_18 hl (by decide) rfl (fun ls hl => ?_)
      refine lv_aload hx hb dX3_firstOfBin_20 (lv_at hl 0 rfl) ?_
      refine x_get (k := (14 + 2 * i)) hE hK hI (by have := h_i; omega) inG0 (el_14 G o h_i _ _) rfl 1 (by decide) mw_82 rfl dX3_firstOfBin_22 ?_
      refine lv_iconst (v := 1) hx hb dX3_firstOfBin_25 (by decide) ?_
      refine lv_icmp_ne (tgt := 51) hx hb dX3_firstOfBin_26 (by decide) (fun c2 => ?_) (fun c2 => ?_)
      · refine lv_iinc (v := nI (i + 1)) (lv' := [(3, .int (nI (i + 1))), (4, .ref (o + (14 + 2 * i))), (0, .ref (o + 11)), (1, .int r), (2, .int (nI j))]) hx hb dX3_firstOfBin_51 hl (k := 4) rfl (nI_add i 1) (by decide) rfl (fun ls hl => ?_)
        refine lv_goto (tgt := 4) hx hb dX3_firstOfBin_54 (by decide) ?_
        have ih' := ih (i + 1) (by omega) H locs hI ls
        rw [show fstN (pB X) (bfX X r) (i + 1) = some j by (unfold fstN; rw [hq]; dsimp only; rw [if_neg c2])] at ih'
        exact ih' (lv_sub hl [2, 3, 4, 0] rfl)
      · refine lv_iload_n hx hb dX3_firstOfBin_29 rfl (lv_at hl 3 rfl) ?_
        refine lv_iconst (v := (-1)) hx hb dX3_firstOfBin_30 (by decide) ?_
        refine lv_icmp_eq (tgt := 49) hx hb dX3_firstOfBin_31 (by decide) (fun q => absurd q hjn) (fun _ => ?_)
        refine lv_aload hx hb dX3_firstOfBin_34 (lv_at hl 0 rfl) ?_
        refine lv_aload_n hx hb dX3_firstOfBin_36 rfl (lv_at hl 1 rfl) ?_
        refine x_get (k := 11) hE hK hI (by decide) inG3 (e_11 G o _ _) rfl 0 (by decide) mw_102 rfl dX3_firstOfBin_37 ?_
        refine lv_iload_n hx hb dX3_firstOfBin_40 rfl (lv_at hl 3 rfl) ?_
        refine x_aald (k := 12) (j := j) (t0 := 3) (q := o + (14 + 2 * j)) hE hK hI (by decide) (e_12 G o) rfl rfl h_j (by decide) rfl (ql_14 h_j) dX3_firstOfBin_41 ?_
        refine lv_iload_n hx hb dX3_firstOfBin_42 rfl (lv_at hl 2 rfl) ?_
        refine x_callVi (k := (14 + 2 * i)) hE hK hI (c_X0_standsBefore l G o _ _ i j r h_i h_j) mf_X0_standsBefore mw_324 (by have := h_i; omega) ((el_14 G o h_i) _ _) rfl rfl hl.1 rfl (Nat.le_of_ble_eq_true rfl) ⟨(Nat.le_of_ble_eq_true rfl), (Nat.le_of_ble_eq_true rfl)⟩ ⟨Nat.zero_le _, Nat.zero_le _⟩ dX3_firstOfBin_43 (fun H locs hI => ?_)
        refine lv_if_eq (tgt := 51) hx hb dX3_firstOfBin_46 (by decide) (fun c3 => ?_) (fun c3 => ?_)
        · have c3 := bI_eq0.mp c3
          refine lv_iinc (v := nI (i + 1)) (lv' := [(3, .int (nI (i + 1))), (4, .ref (o + (14 + 2 * i))), (0, .ref (o + 11)), (1, .int r), (2, .int (nI j))]) hx hb dX3_firstOfBin_51 hl (k := 4) rfl (nI_add i 1) (by decide) rfl (fun ls hl => ?_)
          refine lv_goto (tgt := 4) hx hb dX3_firstOfBin_54 (by decide) ?_
          have ih' := ih (i + 1) (by omega) H locs hI ls
          rw [show fstN (pB X) (bfX X r) (i + 1) = some j by (unfold fstN; rw [hq]; dsimp only; rw [if_pos c2, if_neg c3])] at ih'
          exact ih' (lv_sub hl [2, 3, 4, 0] rfl)
        · have c3 := bI_ne0.mp c3
          refine lv_iload_n hx hb dX3_firstOfBin_49 rfl (lv_at hl 4 rfl) ?_
          refine lv_istore_n (lv' := [(2, .int (nI i)), (4, .ref (o + (14 + 2 * i))), (0, .ref (o + 11)), (1, .int r), (3, .int (nI i))]) hx hb dX3_firstOfBin_50 rfl hl (by decide) rfl (fun ls hl => ?_)
          refine lv_iinc (v := nI (i + 1)) (lv' := [(3, .int (nI (i + 1))), (2, .int (nI i)), (4, .ref (o + (14 + 2 * i))), (0, .ref (o + 11)), (1, .int r)]) hx hb dX3_firstOfBin_51 hl (k := 4) rfl (nI_add i 1) (by decide) rfl (fun ls hl => ?_)
          refine lv_goto (tgt := 4) hx hb dX3_firstOfBin_54 (by decide) ?_
          have ih' := ih (i + 1) (by omega) H locs hI ls
          rw [show fstN (pB X) (bfX X r) (i + 1) = some i by (unfold fstN; rw [hq]; dsimp only; rw [if_pos c2, if_pos c3])] at ih'
          exact ih' (lv_sub hl [3, 4, 1, 0] rfl)
set_option maxRecDepth 100000 in
set_option maxHeartbeats 4000000 in
theorem c_X3_firstOfBin (l : Launch) (G : GG) (o : Nat) (X : SX) (Y : SY) (r : Int32) (cnt : Nat) (hc : X 11 2 = nI cnt) (h40 : cnt ≤ 40) : Ct l yX3_firstOfBin cX3_firstOfBin 5 (some .int) 2 48 G o [.ref (o + 11), .int r] X Y (some (.int (oI (-1) (fstN (pB X) (bfX X r) cnt)))) X Y := by
  refine Ct.mk (by decide +kernel) (Nat.le_of_ble_eq_true rfl) rfl ?_
  intro p9 e9 s9 m9 args9 below9 meth9 c9 hE hr hlocks hK hI ls hl
  have hx := hE.1
  have hb := hE.2.1
  have hl : lv_has ls 5 [(0, .ref (o + 11)), (1, .int r)] := hl
  refine lv_iconst (v := (-1)) hx hb dX3_firstOfBin_0 (by decide) ?_
  refine lv_istore_n (lv' := [(2, .int (-1)), (0, .ref (o + 11)), (1, .int r)]) hx hb dX3_firstOfBin_1 rfl hl (by decide) rfl (fun ls hl => ?_)
  refine lv_iconst (v := 0) hx hb dX3_firstOfBin_2 (by decide) ?_
  refine lv_istore_n (lv' := [(3, .int 0), (2, .int (-1)), (0, .ref (o + 11)), (1, .int r)]) hx hb dX3_firstOfBin_3 rfl hl (by decide) rfl (fun ls hl => ?_)
  exact lp_X3_firstOfBin l G o X Y r cnt hc h40 hE hr hlocks hK cnt 0 (by omega) _ _ hI ls (lv_sub hl [2, 3, 1, 0] rfl)
def tkX (X : SX) : Nat → SX
  | 0 => X
  | k + 1 => if tkX X k (14 + 2 * k) 1 = 0 then (if tkX X k (14 + 2 * k) 2 = tkX X k 11 3 then pbX (tkX X k) k else tkX X k) else tkX X k
theorem pbX_o {X : SX} {i k j : Nat} (h1 : ¬ (k = 14 + 2 * i ∧ (j = 1 ∨ j = 3))) (h2 : ¬ (k = 11 ∧ j = 4)) : pbX X i k j = X k j := by
  unfold pbX
  rw [sx_o h2, sx_o (fun q => h1 ⟨q.1, Or.inr q.2⟩), sx_o (fun q => h1 ⟨q.1, Or.inl q.2⟩)]
theorem tkX_11 {X : SX} {j : Nat} (hj : j ≠ 4) : ∀ k : Nat, tkX X k 11 j = X 11 j
  | 0 => rfl
  | k + 1 => by
    have ih := tkX_11 (X := X) hj k
    unfold tkX
    split
    · split
      · rw [pbX_o (by omega) (by omega)]; exact ih
      · exact ih
    · exact ih
set_option maxRecDepth 100000 in
set_option maxHeartbeats 4000000 in
theorem lp_X3_takePlannedLots (l : Launch) (G : GG) (o : Nat) (X : SX) (Y : SY) (cnt : Nat) (hc : X 11 2 = nI cnt) (h40 : cnt ≤ 40) {p9 : Program} {e9 : Env} {s9 : State} {m9 : MethodId} {args9 : Array Value} {below9 : List Frame} {meth9 : Method} {c9 : Code} (hE : gE p9 m9 c9 cX3_takePlannedLots 3 s9 args9 yX3_takePlannedLots.cls) (hr : meth9.sig.returnType = none) (hlocks : meth9.locks = false) (hK : KK G s9) :
    ∀ (n : Nat) (i : Nat), i + n = cnt → ∀ (H : Heap) (locs : List Loc), In G o (tkX X i) Y s9.heap H locs → ∀ ls : Array Slot, lv_has ls 3 [(0, .ref (o + 11)), (1, .int (nI i))] → W p9 l e9 (Rm 1 21) s9 m9 args9 below9 meth9 c9 H locs 0 0 (MQ below9 (Qw G o none (tkX X cnt) Y) args9 s9 0 0 (rg o)) (F0 m9 2 ls []) := by
  have hx := hE.1
  have hb := hE.2.1
  intro n
  induction n with
  | zero =>
    intro i hi H locs hI ls hl
    have ei : i = cnt := by omega
    refine lv_iload_n hx hb dX3_takePlannedLots_2 rfl (lv_at hl 1 rfl) ?_
    refine lv_aload_n hx hb dX3_takePlannedLots_3 rfl (lv_at hl 0 rfl) ?_
    refine x_get (k := 11) hE hK hI (by decide) inG3 (e_11 G o _ _) rfl 2 (by decide) mw_106 rfl dX3_takePlannedLots_4 ?_
    refine lv_topi (fun z1 ez1 => ?_)
    obtain rfl : nI cnt = z1 := (ez1.trans (((tkX_11 (by decide) _).trans hc))).symm
    refine lv_icmp_ge (tgt := 46) hx hb dX3_takePlannedLots_7 (by decide) (fun _ => ?_) (fun q => absurd (nI_le (by omega) (by omega)) q)
    exact x_vret hE hr hlocks hI rfl (by rw [ei]) rfl dX3_takePlannedLots_46
  | succ n ih =>
    intro i hi H locs hI ls hl
    have h_i : i < 40 := by omega
    refine lv_iload_n hx hb dX3_takePlannedLots_2 rfl (lv_at hl 1 rfl) ?_
    refine lv_aload_n hx hb dX3_takePlannedLots_3 rfl (lv_at hl 0 rfl) ?_
    refine x_get (k := 11) hE hK hI (by decide) inG3 (e_11 G o _ _) rfl 2 (by decide) mw_106 rfl dX3_takePlannedLots_4 ?_
    refine lv_topi (fun z1 ez1 => ?_)
    obtain rfl : nI cnt = z1 := (ez1.trans (((tkX_11 (by decide) _).trans hc))).symm
    refine lv_icmp_ge (tgt := 46) hx hb dX3_takePlannedLots_7 (by decide) (fun q => absurd q (nI_ge (by omega) (by omega))) (fun _ => ?_)
    refine lv_aload_n hx hb dX3_takePlannedLots_10 rfl (lv_at hl 0 rfl) ?_
    refine x_get (k := 11) hE hK hI (by decide) inG3 (e_11 G o _ _) rfl 0 (by decide) mw_102 rfl dX3_takePlannedLots_11 ?_
    refine lv_iload_n hx hb dX3_takePlannedLots_14 rfl (lv_at hl 1 rfl) ?_
    refine x_aald (k := 12) (j := i) (t0 := 3) (q := o + (14 + 2 * i)) hE hK hI (by decide) (e_12 G o) rfl rfl h_i (by decide) rfl (ql_14 h_i) dX3_takePlannedLots_15 ?_
    refine lv_astore_n (lv' := [(2, .ref (o + (14 + 2 * i))), (0, .ref (o + 11)), (1, .int (nI i))]) hx hb dX3_takePlannedLots_16 rfl hl (by decide) rfl (fun ls hl => ?_)
    refine lv_aload_n hx hb dX3_takePlannedLots_17 rfl (lv_at hl 0 rfl) ?_
    refine x_get (k := (14 + 2 * i)) hE hK hI (by have := h_i; omega) inG0 (el_14 G o h_i _ _) rfl 1 (by decide) mw_82 rfl dX3_takePlannedLots_18 ?_
    refine lv_if_ne (tgt := 40) hx hb dX3_takePlannedLots_21 (by decide) (fun c2 => ?_) (fun c2 => ?_)
    · refine lv_iinc (v := nI (i + 1)) (lv' := [(1, .int (nI (i + 1))), (2, .ref (o + (14 + 2 * i))), (0, .ref (o + 11))]) hx hb dX3_takePlannedLots_40 hl (k := 2) rfl (nI_add i 1) (by decide) rfl (fun ls hl => ?_)
      refine lv_goto (tgt := 2) hx hb dX3_takePlannedLots_43 (by decide) ?_
      have ih' := ih (i + 1) (by omega) H locs
      rw [show tkX X (i + 1) = tkX X i from if_neg c2] at ih'
      exact ih' hI ls (lv_sub hl [2, 0] rfl)
    · refine lv_aload_n hx hb dX3_takePlannedLots_24 rfl (lv_at hl 0 rfl) ?_
      refine x_get (k := (14 + 2 * i)) hE hK hI (by have := h_i; omega) inG0 (el_14 G o h_i _ _) rfl 2 (by decide) mw_85 rfl dX3_takePlannedLots_25 ?_
      refine lv_aload_n hx hb dX3_takePlannedLots_28 rfl (lv_at hl 1 rfl) ?_
      refine x_get (k := 11) hE hK hI (by decide) inG3 (e_11 G o _ _) rfl 3 (by decide) mw_108 rfl dX3_takePlannedLots_29 ?_
      refine lv_icmp_ne (tgt := 40) hx hb dX3_takePlannedLots_32 (by decide) (fun c3 => ?_) (fun c3 => ?_)
      · refine lv_iinc (v := nI (i + 1)) (lv' := [(1, .int (nI (i + 1))), (2, .ref (o + (14 + 2 * i))), (0, .ref (o + 11))]) hx hb dX3_takePlannedLots_40 hl (k := 2) rfl (nI_add i 1) (by decide) rfl (fun ls hl => ?_)
        refine lv_goto (tgt := 2) hx hb dX3_takePlannedLots_43 (by decide) ?_
        have ih' := ih (i + 1) (by omega) H locs
        rw [show tkX X (i + 1) = tkX X i from (if_pos c2).trans (if_neg c3)] at ih'
        exact ih' hI ls (lv_sub hl [2, 0] rfl)
      · refine lv_aload_n hx hb dX3_takePlannedLots_35 rfl (lv_at hl 1 rfl) ?_
        refine lv_aload_n hx hb dX3_takePlannedLots_36 rfl (lv_at hl 0 rfl) ?_
        refine x_callVv (k := 11) hE hK hI (c_X3_putIntoBin l G o _ _ i h_i) mf_X3_putIntoBin mw_374 (by decide) ((e_11 G o) _ _) rfl rfl hl.1 rfl (Nat.le_of_ble_eq_true rfl) ⟨(Nat.le_of_ble_eq_true rfl), (Nat.le_of_ble_eq_true rfl)⟩ ⟨Nat.zero_le _, Nat.zero_le _⟩ dX3_takePlannedLots_37 (fun H locs hI => ?_)
        refine lv_iinc (v := nI (i + 1)) (lv' := [(1, .int (nI (i + 1))), (2, .ref (o + (14 + 2 * i))), (0, .ref (o + 11))]) hx hb dX3_takePlannedLots_40 hl (k := 2) rfl (nI_add i 1) (by decide) rfl (fun ls hl => ?_)
        refine lv_goto (tgt := 2) hx hb dX3_takePlannedLots_43 (by decide) ?_
        have ih' := ih (i + 1) (by omega) H locs
        rw [show tkX X (i + 1) = pbX (tkX X i) i from (if_pos c2).trans (if_pos c3)] at ih'
        exact ih' hI ls (lv_sub hl [2, 0] rfl)
set_option maxRecDepth 100000 in
set_option maxHeartbeats 4000000 in
theorem c_X3_takePlannedLots (l : Launch) (G : GG) (o : Nat) (X : SX) (Y : SY) (cnt : Nat) (hc : X 11 2 = nI cnt) (h40 : cnt ≤ 40) : Ct l yX3_takePlannedLots cX3_takePlannedLots 3 none 1 21 G o [.ref (o + 11)] X Y none (tkX X cnt) Y := by
  refine Ct.mk (by decide +kernel) (Nat.le_of_ble_eq_true rfl) rfl ?_
  intro p9 e9 s9 m9 args9 below9 meth9 c9 hE hr hlocks hK hI ls hl
  have hx := hE.1
  have hb := hE.2.1
  have hl : lv_has ls 3 [(0, .ref (o + 11))] := hl
  refine lv_iconst (v := 0) hx hb dX3_takePlannedLots_0 (by decide) ?_
  refine lv_istore_n (lv' := [(1, .int 0), (0, .ref (o + 11))]) hx hb dX3_takePlannedLots_1 rfl hl (by decide) rfl (fun ls hl => ?_)
  exact lp_X3_takePlannedLots l G o X Y cnt hc h40 hE hr hlocks hK cnt 0 (by omega) _ _ hI ls (lv_sub hl [1, 0] rfl)
set_option maxRecDepth 100000 in
set_option maxHeartbeats 4000000 in
theorem c_X3_startIfIdle_busy (l : Launch) (G : GG) (o : Nat) (X : SX) (Y : SY) (h : ¬ (X 11 5 = (-1))) : Ct l yX3_startIfIdle cX3_startIfIdle 4 none 3 72 G o [.ref (o + 11), .ref (o + 2)] X Y none X Y := by
  refine Ct.mk (by decide +kernel) (Nat.le_of_ble_eq_true rfl) rfl ?_
  intro p9 e9 s9 m9 args9 below9 meth9 c9 hE hr hlocks hK hI ls hl
  have hx := hE.1
  have hb := hE.2.1
  have hl : lv_has ls 4 [(0, .ref (o + 11)), (1, .ref (o + 2))] := hl
  refine lv_aload_n hx hb dX3_startIfIdle_0 rfl (lv_at hl 0 rfl) ?_
  refine x_callVi (k := 11) hE hK hI (c_X3_isIdle l G o _ _  ) mf_X3_isIdle mw_316 (by decide) ((e_11 G o) _ _) rfl rfl hl.1 rfl (Nat.le_of_ble_eq_true rfl) ⟨(Nat.le_of_ble_eq_true rfl), (Nat.le_of_ble_eq_true rfl)⟩ ⟨Nat.zero_le _, Nat.zero_le _⟩ dX3_startIfIdle_1 (fun H locs hI => ?_)
  refine lv_topi (fun z1 ez1 => ?_)
  obtain rfl : 0 = z1 := (ez1.trans (bI_f h)).symm
  refine lv_if_ne (tgt := 8) hx hb dX3_startIfIdle_4 (by decide) (fun q => absurd (by decide) q) (fun _ => ?_)
  exact x_vret hE hr hlocks hI rfl rfl rfl dX3_startIfIdle_7
set_option maxRecDepth 100000 in
set_option maxHeartbeats 4000000 in
theorem c_X3_startIfIdle_none (l : Launch) (G : GG) (o : Nat) (X : SX) (Y : SY) (cnt : Nat) (hc : X 11 2 = nI cnt) (h40 : cnt ≤ 40) (h : X 11 5 = (-1)) (hq : fstN (pB X) (bfX X (X 2 5)) cnt = none) : Ct l yX3_startIfIdle cX3_startIfIdle 4 none 3 72 G o [.ref (o + 11), .ref (o + 2)] X Y none X Y := by
  refine Ct.mk (by decide +kernel) (Nat.le_of_ble_eq_true rfl) rfl ?_
  intro p9 e9 s9 m9 args9 below9 meth9 c9 hE hr hlocks hK hI ls hl
  have hx := hE.1
  have hb := hE.2.1
  have hl : lv_has ls 4 [(0, .ref (o + 11)), (1, .ref (o + 2))] := hl
  refine lv_aload_n hx hb dX3_startIfIdle_0 rfl (lv_at hl 0 rfl) ?_
  refine x_callVi (k := 11) hE hK hI (c_X3_isIdle l G o _ _  ) mf_X3_isIdle mw_316 (by decide) ((e_11 G o) _ _) rfl rfl hl.1 rfl (Nat.le_of_ble_eq_true rfl) ⟨(Nat.le_of_ble_eq_true rfl), (Nat.le_of_ble_eq_true rfl)⟩ ⟨Nat.zero_le _, Nat.zero_le _⟩ dX3_startIfIdle_1 (fun H locs hI => ?_)
  refine lv_topi (fun z1 ez1 => ?_)
  obtain rfl : 1 = z1 := (ez1.trans (bI_t h)).symm
  refine lv_if_ne (tgt := 8) hx hb dX3_startIfIdle_4 (by decide) (fun _ => ?_) (fun q => absurd q (by decide))
  refine lv_aload_n hx hb dX3_startIfIdle_8 rfl (lv_at hl 0 rfl) ?_
  refine lv_aload_n hx hb dX3_startIfIdle_9 rfl (lv_at hl 1 rfl) ?_
  refine x_get (k := 2) hE hK hI (by decide) inG2 (e_2 G o _ _) rfl 5 (by decide) mw_49 rfl dX3_startIfIdle_10 ?_
  refine x_callVi (k := 11) hE hK hI (c_X3_firstOfBin l G o _ _ (X 2 5) cnt hc h40) mf_X3_firstOfBin mw_320 (by decide) ((e_11 G o) _ _) rfl rfl hl.1 rfl (Nat.le_of_ble_eq_true rfl) ⟨(Nat.le_of_ble_eq_true rfl), (Nat.le_of_ble_eq_true rfl)⟩ ⟨Nat.zero_le _, Nat.zero_le _⟩ dX3_startIfIdle_13 (fun H locs hI => ?_)
  refine lv_istore_n (lv' := [(2, .int (oI (-1) (fstN (pB X) (bfX X (X 2 5)) cnt))), (0, .ref (o + 11)), (1, .ref (o + 2))]) hx hb dX3_startIfIdle_16 rfl hl (by decide) rfl (fun ls hl => ?_)
  refine lv_iload_n hx hb dX3_startIfIdle_17 rfl (lv_at hl 0 rfl) ?_
  refine lv_iconst (v := (-1)) hx hb dX3_startIfIdle_18 (by decide) ?_
  refine lv_icmp_ne (tgt := 23) hx hb dX3_startIfIdle_19 (by decide) (fun q => absurd (congrArg (oI (-1)) hq) q) (fun _ => ?_)
  exact x_vret hE hr hlocks hI rfl rfl rfl dX3_startIfIdle_22
def staX (X : SX) (cnt : Nat) (j : Nat) : SX := sx (sx (sx X (14 + 2 * j) 1 2) 11 5 (nI j)) 11 6 ((X 11 3) + ((((sum4 ((sx (sx X (14 + 2 * j) 1 2) 11 5 (nI j)) (15 + 2 * j))) + (X 2 4)) - 1) / (X 2 4)))
set_option maxRecDepth 100000 in
set_option maxHeartbeats 4000000 in
theorem c_X3_startIfIdle_some (l : Launch) (G : GG) (o : Nat) (X : SX) (Y : SY) (cnt : Nat) (j : Nat) (hc : X 11 2 = nI cnt) (h40 : cnt ≤ 40) (h : X 11 5 = (-1)) (hq : fstN (pB X) (bfX X (X 2 5)) cnt = some j) (h_j : j < 40) (hr0 : ¬ (X 2 4 = 0)) : Ct l yX3_startIfIdle cX3_startIfIdle 4 none 3 72 G o [.ref (o + 11), .ref (o + 2)] X Y none (staX X cnt j) Y := by
  refine Ct.mk (by decide +kernel) (Nat.le_of_ble_eq_true rfl) rfl ?_
  intro p9 e9 s9 m9 args9 below9 meth9 c9 hE hr hlocks hK hI ls hl
  have hx := hE.1
  have hb := hE.2.1
  have hl : lv_has ls 4 [(0, .ref (o + 11)), (1, .ref (o + 2))] := hl
  refine lv_aload_n hx hb dX3_startIfIdle_0 rfl (lv_at hl 0 rfl) ?_
  refine x_callVi (k := 11) hE hK hI (c_X3_isIdle l G o _ _  ) mf_X3_isIdle mw_316 (by decide) ((e_11 G o) _ _) rfl rfl hl.1 rfl (Nat.le_of_ble_eq_true rfl) ⟨(Nat.le_of_ble_eq_true rfl), (Nat.le_of_ble_eq_true rfl)⟩ ⟨Nat.zero_le _, Nat.zero_le _⟩ dX3_startIfIdle_1 (fun H locs hI => ?_)
  refine lv_topi (fun z1 ez1 => ?_)
  obtain rfl : 1 = z1 := (ez1.trans (bI_t h)).symm
  refine lv_if_ne (tgt := 8) hx hb dX3_startIfIdle_4 (by decide) (fun _ => ?_) (fun q => absurd q (by decide))
  refine lv_aload_n hx hb dX3_startIfIdle_8 rfl (lv_at hl 0 rfl) ?_
  refine lv_aload_n hx hb dX3_startIfIdle_9 rfl (lv_at hl 1 rfl) ?_
  refine x_get (k := 2) hE hK hI (by decide) inG2 (e_2 G o _ _) rfl 5 (by decide) mw_49 rfl dX3_startIfIdle_10 ?_
  refine x_callVi (k := 11) hE hK hI (c_X3_firstOfBin l G o _ _ (X 2 5) cnt hc h40) mf_X3_firstOfBin mw_320 (by decide) ((e_11 G o) _ _) rfl rfl hl.1 rfl (Nat.le_of_ble_eq_true rfl) ⟨(Nat.le_of_ble_eq_true rfl), (Nat.le_of_ble_eq_true rfl)⟩ ⟨Nat.zero_le _, Nat.zero_le _⟩ dX3_startIfIdle_13 (fun H locs hI => ?_)
  refine lv_topi (fun z2 ez2 => ?_)
  obtain rfl : nI j = z2 := (ez2.trans (congrArg (oI (-1)) hq)).symm
  refine lv_istore_n (lv' := [(2, .int (nI j)), (0, .ref (o + 11)), (1, .ref (o + 2))]) hx hb dX3_startIfIdle_16 rfl hl (by decide) rfl (fun ls hl => ?_)
  refine lv_iload_n hx hb dX3_startIfIdle_17 rfl (lv_at hl 0 rfl) ?_
  refine lv_iconst (v := (-1)) hx hb dX3_startIfIdle_18 (by decide) ?_
  refine lv_icmp_ne (tgt := 23) hx hb dX3_startIfIdle_19 (by decide) (fun _ => ?_) (fun q => absurd q (nI_nm1 (Nat.lt_trans h_j (by decide))))
  refine lv_aload_n hx hb dX3_startIfIdle_23 rfl (lv_at hl 1 rfl) ?_
  refine x_get (k := 11) hE hK hI (by decide) inG3 (e_11 G o _ _) rfl 0 (by decide) mw_102 rfl dX3_startIfIdle_24 ?_
  refine lv_iload_n hx hb dX3_startIfIdle_27 rfl (lv_at hl 0 rfl) ?_
  refine x_aald (k := 12) (j := j) (t0 := 3) (q := o + (14 + 2 * j)) hE hK hI (by decide) (e_12 G o) rfl rfl h_j (by decide) rfl (ql_14 h_j) dX3_startIfIdle_28 ?_
  refine lv_astore_n (lv' := [(3, .ref (o + (14 + 2 * j))), (2, .int (nI j)), (0, .ref (o + 11)), (1, .ref (o + 2))]) hx hb dX3_startIfIdle_29 rfl hl (by decide) rfl (fun ls hl => ?_)
  refine lv_aload_n hx hb dX3_startIfIdle_30 rfl (lv_at hl 0 rfl) ?_
  refine lv_iconst (v := 2) hx hb dX3_startIfIdle_31 (by decide) ?_
  refine x_puti (k := (14 + 2 * j)) hE hK hI (by have := h_j; omega) inG0 tyX0 tyX0_ok nmX0 (el_14 G o h_j) rfl 1 (by decide) mw_82 rfl (by decide +kernel) (by exact Nat.le_of_ble_eq_true rfl) rfl dX3_startIfIdle_32 (fun H locs hI => ?_)
  refine lv_aload_n hx hb dX3_startIfIdle_35 rfl (lv_at hl 2 rfl) ?_
  refine lv_iload_n hx hb dX3_startIfIdle_36 rfl (lv_at hl 1 rfl) ?_
  refine x_puti (k := 11) hE hK hI (by decide) inG3 tyX3 tyX3_ok nmX3 (e_11 G o) rfl 5 (by decide) mw_111 rfl (by decide +kernel) (by exact Nat.le_of_ble_eq_true rfl) rfl dX3_startIfIdle_37 (fun H locs hI => ?_)
  refine lv_aload_n hx hb dX3_startIfIdle_40 rfl (lv_at hl 2 rfl) ?_
  refine lv_aload_n hx hb dX3_startIfIdle_41 rfl (lv_at hl 2 rfl) ?_
  refine x_get (k := 11) hE hK hI (by decide) inG3 (e_11 G o _ _) rfl 3 (by decide) mw_108 rfl dX3_startIfIdle_42 ?_
  refine lv_topi (fun z3 ez3 => ?_)
  obtain rfl : X 11 3 = z3 := (ez3.trans ((sx_o (by decide)).trans ((sx_o (by omega))))).symm
  refine lv_aload_n hx hb dX3_startIfIdle_45 rfl (lv_at hl 0 rfl) ?_
  refine x_get (k := (14 + 2 * j)) hE hK hI (by have := h_j; omega) inG0 (el_14 G o h_j _ _) rfl 0 (by decide) mw_79 rfl dX3_startIfIdle_46 ?_
  refine x_callNi hE hK hI (c_X5_sum l G o _ _ (15 + 2 * j) (em_14 G o h_j) (by have := h_j; omega)) mf_X5_sum hK.2.2.2 rfl hl.1 rfl (Nat.le_of_ble_eq_true rfl) ⟨(Nat.le_of_ble_eq_true rfl), (Nat.le_of_ble_eq_true rfl)⟩ ⟨Nat.zero_le _, Nat.zero_le _⟩ dX3_startIfIdle_49 (fun H locs hI => ?_)
  refine lv_aload_n hx hb dX3_startIfIdle_52 rfl (lv_at hl 3 rfl) ?_
  refine x_get (k := 2) hE hK hI (by decide) inG2 (e_2 G o _ _) rfl 4 (by decide) mw_46 rfl dX3_startIfIdle_53 ?_
  refine lv_topi (fun z4 ez4 => ?_)
  obtain rfl : X 2 4 = z4 := (ez4.trans ((sx_o (by decide)).trans ((sx_o (by omega))))).symm
  refine lv_iadd hx hb dX3_startIfIdle_56 ?_
  refine lv_iconst (v := 1) hx hb dX3_startIfIdle_57 (by decide) ?_
  refine lv_isub hx hb dX3_startIfIdle_58 ?_
  refine lv_aload_n hx hb dX3_startIfIdle_59 rfl (lv_at hl 3 rfl) ?_
  refine x_get (k := 2) hE hK hI (by decide) inG2 (e_2 G o _ _) rfl 4 (by decide) mw_46 rfl dX3_startIfIdle_60 ?_
  refine lv_topi (fun z5 ez5 => ?_)
  obtain rfl : X 2 4 = z5 := (ez5.trans ((sx_o (by decide)).trans ((sx_o (by omega))))).symm
  refine lv_idiv hx hb dX3_startIfIdle_63 hr0 ?_
  refine lv_iadd hx hb dX3_startIfIdle_64 ?_
  refine x_puti (k := 11) hE hK hI (by decide) inG3 tyX3 tyX3_ok nmX3 (e_11 G o) rfl 6 (by decide) mw_113 rfl (by decide +kernel) (by exact Nat.le_of_ble_eq_true rfl) rfl dX3_startIfIdle_65 (fun H locs hI => ?_)
  exact x_vret hE hr hlocks hI rfl rfl rfl dX3_startIfIdle_68
set_option maxRecDepth 100000 in
set_option maxHeartbeats 4000000 in
theorem c_X3_finishIfDue_no1 (l : Launch) (G : GG) (o : Nat) (X : SX) (Y : SY) (h : X 11 5 = (-1)) : Ct l yX3_finishIfDue cX3_finishIfDue 4 none 1 25 G o [.ref (o + 11), .ref (o + 2)] X Y none X Y := by
  refine Ct.mk (by decide +kernel) (Nat.le_of_ble_eq_true rfl) rfl ?_
  intro p9 e9 s9 m9 args9 below9 meth9 c9 hE hr hlocks hK hI ls hl
  have hx := hE.1
  have hb := hE.2.1
  have hl : lv_has ls 4 [(0, .ref (o + 11)), (1, .ref (o + 2))] := hl
  refine lv_aload_n hx hb dX3_finishIfDue_0 rfl (lv_at hl 0 rfl) ?_
  refine x_callVi (k := 11) hE hK hI (c_X3_isIdle l G o _ _  ) mf_X3_isIdle mw_316 (by decide) ((e_11 G o) _ _) rfl rfl hl.1 rfl (Nat.le_of_ble_eq_true rfl) ⟨(Nat.le_of_ble_eq_true rfl), (Nat.le_of_ble_eq_true rfl)⟩ ⟨Nat.zero_le _, Nat.zero_le _⟩ dX3_finishIfDue_1 (fun H locs hI => ?_)
  refine lv_topi (fun z1 ez1 => ?_)
  obtain rfl : 1 = z1 := (ez1.trans (bI_t h)).symm
  refine lv_if_ne (tgt := 18) hx hb dX3_finishIfDue_4 (by decide) (fun _ => ?_) (fun q => absurd q (by decide))
  exact x_vret hE hr hlocks hI rfl rfl rfl dX3_finishIfDue_18
set_option maxRecDepth 100000 in
set_option maxHeartbeats 4000000 in
theorem c_X3_finishIfDue_no2 (l : Launch) (G : GG) (o : Nat) (X : SX) (Y : SY) (h : ¬ (X 11 5 = (-1))) (h2 : ¬ (X 11 6 = X 11 3)) : Ct l yX3_finishIfDue cX3_finishIfDue 4 none 1 25 G o [.ref (o + 11), .ref (o + 2)] X Y none X Y := by
  refine Ct.mk (by decide +kernel) (Nat.le_of_ble_eq_true rfl) rfl ?_
  intro p9 e9 s9 m9 args9 below9 meth9 c9 hE hr hlocks hK hI ls hl
  have hx := hE.1
  have hb := hE.2.1
  have hl : lv_has ls 4 [(0, .ref (o + 11)), (1, .ref (o + 2))] := hl
  refine lv_aload_n hx hb dX3_finishIfDue_0 rfl (lv_at hl 0 rfl) ?_
  refine x_callVi (k := 11) hE hK hI (c_X3_isIdle l G o _ _  ) mf_X3_isIdle mw_316 (by decide) ((e_11 G o) _ _) rfl rfl hl.1 rfl (Nat.le_of_ble_eq_true rfl) ⟨(Nat.le_of_ble_eq_true rfl), (Nat.le_of_ble_eq_true rfl)⟩ ⟨Nat.zero_le _, Nat.zero_le _⟩ dX3_finishIfDue_1 (fun H locs hI => ?_)
  refine lv_topi (fun z1 ez1 => ?_)
  obtain rfl : 0 = z1 := (ez1.trans (bI_f h)).symm
  refine lv_if_ne (tgt := 18) hx hb dX3_finishIfDue_4 (by decide) (fun q => absurd (by decide) q) (fun _ => ?_)
  refine lv_aload_n hx hb dX3_finishIfDue_7 rfl (lv_at hl 0 rfl) ?_
  refine x_get (k := 11) hE hK hI (by decide) inG3 (e_11 G o _ _) rfl 6 (by decide) mw_113 rfl dX3_finishIfDue_8 ?_
  refine lv_aload_n hx hb dX3_finishIfDue_11 rfl (lv_at hl 0 rfl) ?_
  refine x_get (k := 11) hE hK hI (by decide) inG3 (e_11 G o _ _) rfl 3 (by decide) mw_108 rfl dX3_finishIfDue_12 ?_
  refine lv_icmp_eq (tgt := 19) hx hb dX3_finishIfDue_15 (by decide) (fun q => absurd q h2) (fun _ => ?_)
  exact x_vret hE hr hlocks hI rfl rfl rfl dX3_finishIfDue_18
def finX (X : SX) (i : Nat) : SX := if sum4 ((sx (clsX (brkX (sx (sx X 11 5 (-1)) 11 7 ((X 11 7) + (engy ((sx X 11 5 (-1)) 9) ((sx X 11 5 (-1)) (15 + 2 * i))))) i) i) (14 + 2 * i) 4 (((clsX (brkX (sx (sx X 11 5 (-1)) 11 7 ((X 11 7) + (engy ((sx X 11 5 (-1)) 9) ((sx X 11 5 (-1)) (15 + 2 * i))))) i) i) (14 + 2 * i) 4) + 1)) (15 + 2 * i)) = 0 then (sx (sx (sx (clsX (brkX (sx (sx X 11 5 (-1)) 11 7 ((X 11 7) + (engy ((sx X 11 5 (-1)) 9) ((sx X 11 5 (-1)) (15 + 2 * i))))) i) i) (14 + 2 * i) 4 (((clsX (brkX (sx (sx X 11 5 (-1)) 11 7 ((X 11 7) + (engy ((sx X 11 5 (-1)) 9) ((sx X 11 5 (-1)) (15 + 2 * i))))) i) i) (14 + 2 * i) 4) + 1)) 11 8 (((clsX (brkX (sx (sx X 11 5 (-1)) 11 7 ((X 11 7) + (engy ((sx X 11 5 (-1)) 9) ((sx X 11 5 (-1)) (15 + 2 * i))))) i) i) 11 8) + (sum4 ((sx (clsX (brkX (sx (sx X 11 5 (-1)) 11 7 ((X 11 7) + (engy ((sx X 11 5 (-1)) 9) ((sx X 11 5 (-1)) (15 + 2 * i))))) i) i) (14 + 2 * i) 4 (((clsX (brkX (sx (sx X 11 5 (-1)) 11 7 ((X 11 7) + (engy ((sx X 11 5 (-1)) 9) ((sx X 11 5 (-1)) (15 + 2 * i))))) i) i) (14 + 2 * i) 4) + 1)) (15 + 2 * i))))) (14 + 2 * i) 1 3) else (pbX (sx (sx (clsX (brkX (sx (sx X 11 5 (-1)) 11 7 ((X 11 7) + (engy ((sx X 11 5 (-1)) 9) ((sx X 11 5 (-1)) (15 + 2 * i))))) i) i) (14 + 2 * i) 4 (((clsX (brkX (sx (sx X 11 5 (-1)) 11 7 ((X 11 7) + (engy ((sx X 11 5 (-1)) 9) ((sx X 11 5 (-1)) (15 + 2 * i))))) i) i) (14 + 2 * i) 4) + 1)) 11 8 (((clsX (brkX (sx (sx X 11 5 (-1)) 11 7 ((X 11 7) + (engy ((sx X 11 5 (-1)) 9) ((sx X 11 5 (-1)) (15 + 2 * i))))) i) i) 11 8) + (sum4 ((sx (clsX (brkX (sx (sx X 11 5 (-1)) 11 7 ((X 11 7) + (engy ((sx X 11 5 (-1)) 9) ((sx X 11 5 (-1)) (15 + 2 * i))))) i) i) (14 + 2 * i) 4 (((clsX (brkX (sx (sx X 11 5 (-1)) 11 7 ((X 11 7) + (engy ((sx X 11 5 (-1)) 9) ((sx X 11 5 (-1)) (15 + 2 * i))))) i) i) (14 + 2 * i) 4) + 1)) (15 + 2 * i))))) i)
set_option maxRecDepth 100000 in
set_option maxHeartbeats 4000000 in
theorem c_X3_finishIfDue_yes (l : Launch) (G : GG) (o : Nat) (X : SX) (Y : SY) (i : Nat) (hg : X 11 5 = nI i) (h_i : i < 40) (h2 : X 11 6 = X 11 3) : Ct l yX3_finishIfDue cX3_finishIfDue 4 none 1 25 G o [.ref (o + 11), .ref (o + 2)] X Y none (finX X i) Y := by
  refine Ct.mk (by decide +kernel) (Nat.le_of_ble_eq_true rfl) rfl ?_
  intro p9 e9 s9 m9 args9 below9 meth9 c9 hE hr hlocks hK hI ls hl
  have hx := hE.1
  have hb := hE.2.1
  have hl : lv_has ls 4 [(0, .ref (o + 11)), (1, .ref (o + 2))] := hl
  refine lv_aload_n hx hb dX3_finishIfDue_0 rfl (lv_at hl 0 rfl) ?_
  refine x_callVi (k := 11) hE hK hI (c_X3_isIdle l G o _ _  ) mf_X3_isIdle mw_316 (by decide) ((e_11 G o) _ _) rfl rfl hl.1 rfl (Nat.le_of_ble_eq_true rfl) ⟨(Nat.le_of_ble_eq_true rfl), (Nat.le_of_ble_eq_true rfl)⟩ ⟨Nat.zero_le _, Nat.zero_le _⟩ dX3_finishIfDue_1 (fun H locs hI => ?_)
  refine lv_topi (fun z1 ez1 => ?_)
  obtain rfl : 0 = z1 := (ez1.trans (bI_f (by rw [hg]; exact nI_nm1 (Nat.lt_trans h_i (by decide))))).symm
  refine lv_if_ne (tgt := 18) hx hb dX3_finishIfDue_4 (by decide) (fun q => absurd (by decide) q) (fun _ => ?_)
  refine lv_aload_n hx hb dX3_finishIfDue_7 rfl (lv_at hl 0 rfl) ?_
  refine x_get (k := 11) hE hK hI (by decide) inG3 (e_11 G o _ _) rfl 6 (by decide) mw_113 rfl dX3_finishIfDue_8 ?_
  refine lv_aload_n hx hb dX3_finishIfDue_11 rfl (lv_at hl 0 rfl) ?_
  refine x_get (k := 11) hE hK hI (by decide) inG3 (e_11 G o _ _) rfl 3 (by decide) mw_108 rfl dX3_finishIfDue_12 ?_
  refine lv_icmp_eq (tgt := 19) hx hb dX3_finishIfDue_15 (by decide) (fun _ => ?_) (fun q => absurd h2 q)
  refine lv_aload_n hx hb dX3_finishIfDue_19 rfl (lv_at hl 0 rfl) ?_
  refine x_get (k := 11) hE hK hI (by decide) inG3 (e_11 G o _ _) rfl 0 (by decide) mw_102 rfl dX3_finishIfDue_20 ?_
  refine lv_aload_n hx hb dX3_finishIfDue_23 rfl (lv_at hl 0 rfl) ?_
  refine x_get (k := 11) hE hK hI (by decide) inG3 (e_11 G o _ _) rfl 5 (by decide) mw_111 rfl dX3_finishIfDue_24 ?_
  refine lv_topi (fun z2 ez2 => ?_)
  obtain rfl : nI i = z2 := (ez2.trans (hg)).symm
  refine x_aald (k := 12) (j := i) (t0 := 3) (q := o + (14 + 2 * i)) hE hK hI (by decide) (e_12 G o) rfl rfl h_i (by decide) rfl (ql_14 h_i) dX3_finishIfDue_27 ?_
  refine lv_astore_n (lv' := [(2, .ref (o + (14 + 2 * i))), (0, .ref (o + 11)), (1, .ref (o + 2))]) hx hb dX3_finishIfDue_28 rfl hl (by decide) rfl (fun ls hl => ?_)
  refine lv_aload_n hx hb dX3_finishIfDue_29 rfl (lv_at hl 1 rfl) ?_
  refine lv_iconst (v := (-1)) hx hb dX3_finishIfDue_30 (by decide) ?_
  refine x_puti (k := 11) hE hK hI (by decide) inG3 tyX3 tyX3_ok nmX3 (e_11 G o) rfl 5 (by decide) mw_111 rfl (by decide +kernel) (by exact Nat.le_of_ble_eq_true rfl) rfl dX3_finishIfDue_31 (fun H locs hI => ?_)
  refine lv_aload_n hx hb dX3_finishIfDue_34 rfl (lv_at hl 1 rfl) ?_
  refine lv_dup hx hb dX3_finishIfDue_35 rfl ?_
  refine x_get (k := 11) hE hK hI (by decide) inG3 (e_11 G o _ _) rfl 7 (by decide) mw_115 rfl dX3_finishIfDue_36 ?_
  refine lv_topi (fun z3 ez3 => ?_)
  obtain rfl : X 11 7 = z3 := (ez3.trans ((sx_o (by decide)))).symm
  refine lv_aload_n hx hb dX3_finishIfDue_39 rfl (lv_at hl 0 rfl) ?_
  refine lv_aload_n hx hb dX3_finishIfDue_40 rfl (lv_at hl 2 rfl) ?_
  refine x_get (k := 2) hE hK hI (by decide) inG2 (e_2 G o _ _) rfl 2 (by decide) mw_41 rfl dX3_finishIfDue_41 ?_
  refine x_callVi (k := (14 + 2 * i)) hE hK hI (c_X0_energyToGrind l G o _ _ i h_i) mf_X0_energyToGrind mw_362 (by have := h_i; omega) ((el_14 G o h_i) _ _) rfl rfl hl.1 rfl (Nat.le_of_ble_eq_true rfl) ⟨(Nat.le_of_ble_eq_true rfl), (Nat.le_of_ble_eq_true rfl)⟩ ⟨Nat.zero_le _, Nat.zero_le _⟩ dX3_finishIfDue_44 (fun H locs hI => ?_)
  refine lv_iadd hx hb dX3_finishIfDue_47 ?_
  refine x_puti (k := 11) hE hK hI (by decide) inG3 tyX3 tyX3_ok nmX3 (e_11 G o) rfl 7 (by decide) mw_115 rfl (by decide +kernel) (by exact Nat.le_of_ble_eq_true rfl) rfl dX3_finishIfDue_48 (fun H locs hI => ?_)
  refine lv_aload_n hx hb dX3_finishIfDue_51 rfl (lv_at hl 0 rfl) ?_
  refine lv_aload_n hx hb dX3_finishIfDue_52 rfl (lv_at hl 2 rfl) ?_
  refine x_get (k := 2) hE hK hI (by decide) inG2 (e_2 G o _ _) rfl 0 (by decide) mw_35 rfl dX3_finishIfDue_53 ?_
  refine x_callVv (k := (14 + 2 * i)) hE hK hI (c_X0_breakOre l G o _ _ i h_i) mf_X0_breakOre mw_366 (by have := h_i; omega) ((el_14 G o h_i) _ _) rfl rfl hl.1 rfl (Nat.le_of_ble_eq_true rfl) ⟨(Nat.le_of_ble_eq_true rfl), (Nat.le_of_ble_eq_true rfl)⟩ ⟨Nat.zero_le _, Nat.zero_le _⟩ dX3_finishIfDue_56 (fun H locs hI => ?_)
  refine lv_aload_n hx hb dX3_finishIfDue_59 rfl (lv_at hl 0 rfl) ?_
  refine lv_aload_n hx hb dX3_finishIfDue_60 rfl (lv_at hl 2 rfl) ?_
  refine x_get (k := 2) hE hK hI (by decide) inG2 (e_2 G o _ _) rfl 1 (by decide) mw_38 rfl dX3_finishIfDue_61 ?_
  refine lv_aload_n hx hb dX3_finishIfDue_64 rfl (lv_at hl 1 rfl) ?_
  refine x_get (k := 11) hE hK hI (by decide) inG3 (e_11 G o _ _) rfl 1 (by decide) mw_104 rfl dX3_finishIfDue_65 ?_
  refine x_callVv (k := (14 + 2 * i)) hE hK hI (c_X0_classify l G o _ _ i h_i) mf_X0_classify mw_370 (by have := h_i; omega) ((el_14 G o h_i) _ _) rfl rfl hl.1 rfl (Nat.le_of_ble_eq_true rfl) ⟨(Nat.le_of_ble_eq_true rfl), (Nat.le_of_ble_eq_true rfl)⟩ ⟨Nat.zero_le _, Nat.zero_le _⟩ dX3_finishIfDue_68 (fun H locs hI => ?_)
  refine lv_aload_n hx hb dX3_finishIfDue_71 rfl (lv_at hl 0 rfl) ?_
  refine lv_dup hx hb dX3_finishIfDue_72 rfl ?_
  refine x_get (k := (14 + 2 * i)) hE hK hI (by have := h_i; omega) inG0 (el_14 G o h_i _ _) rfl 4 (by decide) mw_89 rfl dX3_finishIfDue_73 ?_
  refine lv_iconst (v := 1) hx hb dX3_finishIfDue_76 (by decide) ?_
  refine lv_iadd hx hb dX3_finishIfDue_77 ?_
  refine x_puti (k := (14 + 2 * i)) hE hK hI (by have := h_i; omega) inG0 tyX0 tyX0_ok nmX0 (el_14 G o h_i) rfl 4 (by decide) mw_89 rfl (by decide +kernel) (by exact Nat.le_of_ble_eq_true rfl) rfl dX3_finishIfDue_78 (fun H locs hI => ?_)
  refine lv_aload_n hx hb dX3_finishIfDue_81 rfl (lv_at hl 0 rfl) ?_
  refine x_get (k := (14 + 2 * i)) hE hK hI (by have := h_i; omega) inG0 (el_14 G o h_i _ _) rfl 0 (by decide) mw_79 rfl dX3_finishIfDue_82 ?_
  refine x_callNi hE hK hI (c_X5_sum l G o _ _ (15 + 2 * i) (em_14 G o h_i) (by have := h_i; omega)) mf_X5_sum hK.2.2.2 rfl hl.1 rfl (Nat.le_of_ble_eq_true rfl) ⟨(Nat.le_of_ble_eq_true rfl), (Nat.le_of_ble_eq_true rfl)⟩ ⟨Nat.zero_le _, Nat.zero_le _⟩ dX3_finishIfDue_85 (fun H locs hI => ?_)
  refine lv_istore_n (lv' := [(3, .int (sum4 ((sx (clsX (brkX (sx (sx X 11 5 (-1)) 11 7 ((X 11 7) + (engy ((sx X 11 5 (-1)) 9) ((sx X 11 5 (-1)) (15 + 2 * i))))) i) i) (14 + 2 * i) 4 (((clsX (brkX (sx (sx X 11 5 (-1)) 11 7 ((X 11 7) + (engy ((sx X 11 5 (-1)) 9) ((sx X 11 5 (-1)) (15 + 2 * i))))) i) i) (14 + 2 * i) 4) + 1)) (15 + 2 * i)))), (2, .ref (o + (14 + 2 * i))), (0, .ref (o + 11)), (1, .ref (o + 2))]) hx hb dX3_finishIfDue_88 rfl hl (by decide) rfl (fun ls hl => ?_)
  refine lv_aload_n hx hb dX3_finishIfDue_89 rfl (lv_at hl 2 rfl) ?_
  refine lv_dup hx hb dX3_finishIfDue_90 rfl ?_
  refine x_get (k := 11) hE hK hI (by decide) inG3 (e_11 G o _ _) rfl 8 (by decide) mw_117 rfl dX3_finishIfDue_91 ?_
  refine lv_topi (fun z4 ez4 => ?_)
  obtain rfl : (clsX (brkX (sx (sx X 11 5 (-1)) 11 7 ((X 11 7) + (engy ((sx X 11 5 (-1)) 9) ((sx X 11 5 (-1)) (15 + 2 * i))))) i) i) 11 8 = z4 := (ez4.trans ((sx_o (by omega)))).symm
  refine lv_iload_n hx hb dX3_finishIfDue_94 rfl (lv_at hl 0 rfl) ?_
  refine lv_iadd hx hb dX3_finishIfDue_95 ?_
  refine x_puti (k := 11) hE hK hI (by decide) inG3 tyX3 tyX3_ok nmX3 (e_11 G o) rfl 8 (by decide) mw_117 rfl (by decide +kernel) (by exact Nat.le_of_ble_eq_true rfl) rfl dX3_finishIfDue_96 (fun H locs hI => ?_)
  refine lv_iload_n hx hb dX3_finishIfDue_99 rfl (lv_at hl 0 rfl) ?_
  refine lv_if_ne (tgt := 111) hx hb dX3_finishIfDue_100 (by decide) (fun c5 => ?_) (fun c5 => ?_)
  · refine lv_aload_n hx hb dX3_finishIfDue_111 rfl (lv_at hl 2 rfl) ?_
    refine lv_aload_n hx hb dX3_finishIfDue_112 rfl (lv_at hl 1 rfl) ?_
    refine x_callVv (k := 11) hE hK hI (c_X3_putIntoBin l G o _ _ i h_i) mf_X3_putIntoBin mw_374 (by decide) ((e_11 G o) _ _) rfl rfl hl.1 rfl (Nat.le_of_ble_eq_true rfl) ⟨(Nat.le_of_ble_eq_true rfl), (Nat.le_of_ble_eq_true rfl)⟩ ⟨Nat.zero_le _, Nat.zero_le _⟩ dX3_finishIfDue_113 (fun H locs hI => ?_)
    exact x_vret hE hr hlocks hI rfl ((if_neg c5).symm) rfl dX3_finishIfDue_116
  · refine lv_aload_n hx hb dX3_finishIfDue_103 rfl (lv_at hl 1 rfl) ?_
    refine lv_iconst (v := 3) hx hb dX3_finishIfDue_104 (by decide) ?_
    refine x_puti (k := (14 + 2 * i)) hE hK hI (by have := h_i; omega) inG0 tyX0 tyX0_ok nmX0 (el_14 G o h_i) rfl 1 (by decide) mw_82 rfl (by decide +kernel) (by exact Nat.le_of_ble_eq_true rfl) rfl dX3_finishIfDue_105 (fun H locs hI => ?_)
    refine lv_goto (tgt := 116) hx hb dX3_finishIfDue_108 (by decide) ?_
    exact x_vret hE hr hlocks hI rfl ((if_pos c5).symm) rfl dX3_finishIfDue_116
/-- what holds of the simulation between its steps -/
def SimInv (X : SX) (cnt : Nat) : Prop := X 11 2 = nI cnt ∧ cnt ≤ 40 ∧ (X 11 5 = (-1) ∨ ∃ i, i < cnt ∧ X 11 5 = nI i) ∧ ¬ X 2 4 = 0
def stF (X : SX) (cnt : Nat) : SX := if X 11 5 = (-1) then (match fstN (pB X) (bfX X (X 2 5)) cnt with
  | none => X
  | some j => staX X cnt j) else X
def fiF (X : SX) : SX := if X 11 5 = (-1) then X else if X 11 6 = X 11 3 then finX X (X 11 5).toNatClampNeg else X
theorem c_X3_startIfIdle (l : Launch) (G : GG) (o : Nat) (X : SX) (Y : SY) (cnt : Nat) (hS : SimInv X cnt) : Ct l yX3_startIfIdle cX3_startIfIdle 4 none 3 72 G o [.ref (o + 11), .ref (o + 2)] X Y none (stF X cnt) Y := by
  unfold stF
  by_cases h : X 11 5 = (-1)
  · rw [if_pos h]
    cases hq : fstN (pB X) (bfX X (X 2 5)) cnt with
    | none => exact c_X3_startIfIdle_none l G o X Y cnt hS.1 hS.2.1 h hq
    | some j => exact c_X3_startIfIdle_some l G o X Y cnt j hS.1 hS.2.1 h hq (by have := fstN_lt _ _ hq; have := hS.2.1; omega) hS.2.2.2
  · rw [if_neg h]
    exact c_X3_startIfIdle_busy l G o X Y h
theorem c_X3_finishIfDue (l : Launch) (G : GG) (o : Nat) (X : SX) (Y : SY) (cnt : Nat) (hS : SimInv X cnt) : Ct l yX3_finishIfDue cX3_finishIfDue 4 none 1 25 G o [.ref (o + 11), .ref (o + 2)] X Y none (fiF X) Y := by
  unfold fiF
  by_cases h : X 11 5 = (-1)
  · rw [if_pos h]
    exact c_X3_finishIfDue_no1 l G o X Y h
  · rw [if_neg h]
    by_cases h2 : X 11 6 = X 11 3
    · rw [if_pos h2]
      obtain ⟨i, hi, hg⟩ := hS.2.2.1.resolve_left h
      have h4 := hS.2.1
      have e : (X 11 5).toNatClampNeg = i := by rw [hg]; exact nI_clamp (by omega)
      rw [e]
      exact c_X3_finishIfDue_yes l G o X Y i hg (by omega) h2
    · rw [if_neg h2]
      exact c_X3_finishIfDue_no2 l G o X Y h h2
theorem c_X3_take (l : Launch) (G : GG) (o : Nat) (X : SX) (Y : SY) (cnt : Nat) (hS : SimInv X cnt) : Ct l yX3_takePlannedLots cX3_takePlannedLots 3 none 1 21 G o [.ref (o + 11)] X Y none (tkX X cnt) Y := c_X3_takePlannedLots l G o X Y cnt hS.1 hS.2.1
end
section
/-! ===== 08: the steady state of the class; fractions ===== -/
def ent (X : SX) (Y : SY) (j : Nat) : Int64 := match j with
  | 0 => 0
  | 1 => 0 + Y 283 0 * (X 4 1).toInt64
  | 2 => 0 + Y 283 0 * (X 4 2).toInt64 + Y 283 1 * (X 5 2).toInt64
  | _ => 0 + Y 283 0 * (X 4 3).toInt64 + Y 283 1 * (X 5 3).toInt64 + Y 283 2 * (X 6 3).toInt64
/-- Euclid's steps, n of them at most -/
def gcdL : Nat → Int64 → Int64 → Int64
  | 0, a, _ => a
  | n + 1, a, b => if b = 0 then a else gcdL n b (a - a / b * b)
/-- they come to 0 within n steps -/
def gok : Nat → Int64 → Int64 → Prop
  | 0, _, b => b = 0
  | n + 1, a, b => b = 0 ∨ gok n b (a - a / b * b)
set_option maxRecDepth 100000 in
set_option maxHeartbeats 4000000 in
theorem c_X4_brokenInto_0 (l : Launch) (G : GG) (o : Nat) (X : SX) (Y : SY) : Ct l yX4_brokenInto cX4_brokenInto 6 (some .long) 0 0 G o [.ref (o + 282), .ref (o + 2), .int 0] X Y (some (.long (ent X Y 0))) X Y := by
  refine Ct.mk (by decide +kernel) (Nat.le_of_ble_eq_true rfl) rfl ?_
  intro p9 e9 s9 m9 args9 below9 meth9 c9 hE hr hlocks hK hI ls hl
  have hx := hE.1
  have hb := hE.2.1
  have hl : lv_has ls 6 [(0, .ref (o + 282)), (1, .ref (o + 2)), (2, .int 0)] := hl
  refine lv_lconst (v := 0) hx hb dX4_brokenInto_0 (by decide) ?_
  refine lv_lstore_n (lv' := [(3, .long 0), (0, .ref (o + 282)), (1, .ref (o + 2)), (2, .int 0)]) hx hb dX4_brokenInto_1 rfl hl (by decide) rfl (fun ls hl => ?_)
  refine lv_iconst (v := 0) hx hb dX4_brokenInto_2 (by decide) ?_
  refine lv_istore (lv' := [(5, .int 0), (3, .long 0), (0, .ref (o + 282)), (1, .ref (o + 2)), (2, .int 0)]) hx hb dX4_brokenInto_3 hl (by decide) rfl (fun ls hl => ?_)
  refine lv_iload hx hb dX4_brokenInto_5 (lv_at hl 0 rfl) ?_
  refine lv_iload_n hx hb dX4_brokenInto_7 rfl (lv_at hl 4 rfl) ?_
  refine lv_icmp_ge (tgt := 38) hx hb dX4_brokenInto_8 (by decide) (fun _ => ?_) (fun q => absurd (by decide) q)
  refine lv_lload_n hx hb dX4_brokenInto_38 rfl (lv_at hl 1 rfl) ?_
  exact x_lret hE hr hlocks hI rfl rfl rfl dX4_brokenInto_39
set_option maxRecDepth 100000 in
set_option maxHeartbeats 4000000 in
theorem c_X4_brokenInto_1 (l : Launch) (G : GG) (o : Nat) (X : SX) (Y : SY) : Ct l yX4_brokenInto cX4_brokenInto 6 (some .long) 0 0 G o [.ref (o + 282), .ref (o + 2), .int 1] X Y (some (.long (ent X Y 1))) X Y := by
  refine Ct.mk (by decide +kernel) (Nat.le_of_ble_eq_true rfl) rfl ?_
  intro p9 e9 s9 m9 args9 below9 meth9 c9 hE hr hlocks hK hI ls hl
  have hx := hE.1
  have hb := hE.2.1
  have hl : lv_has ls 6 [(0, .ref (o + 282)), (1, .ref (o + 2)), (2, .int 1)] := hl
  refine lv_lconst (v := 0) hx hb dX4_brokenInto_0 (by decide) ?_
  refine lv_lstore_n (lv' := [(3, .long 0), (0, .ref (o + 282)), (1, .ref (o + 2)), (2, .int 1)]) hx hb dX4_brokenInto_1 rfl hl (by decide) rfl (fun ls hl => ?_)
  refine lv_iconst (v := 0) hx hb dX4_brokenInto_2 (by decide) ?_
  refine lv_istore (lv' := [(5, .int 0), (3, .long 0), (0, .ref (o + 282)), (1, .ref (o + 2)), (2, .int 1)]) hx hb dX4_brokenInto_3 hl (by decide) rfl (fun ls hl => ?_)
  refine lv_iload hx hb dX4_brokenInto_5 (lv_at hl 0 rfl) ?_
  refine lv_iload_n hx hb dX4_brokenInto_7 rfl (lv_at hl 4 rfl) ?_
  refine lv_icmp_ge (tgt := 38) hx hb dX4_brokenInto_8 (by decide) (fun q => absurd q (by decide)) (fun _ => ?_)
  refine lv_lload_n hx hb dX4_brokenInto_11 rfl (lv_at hl 1 rfl) ?_
  refine lv_aload_n hx hb dX4_brokenInto_12 rfl (lv_at hl 2 rfl) ?_
  refine x_get (k := 282) hE hK hI (by decide) inG4 (e_282 G o _ _) rfl 0 (by decide) mw_154 rfl dX4_brokenInto_13 ?_
  refine lv_iload hx hb dX4_brokenInto_16 (lv_at hl 0 rfl) ?_
  refine x_lald (k := 283) (j := 0) hE hK hI (by decide) (e_283 G o) (by decide) (by decide) rfl dX4_brokenInto_18 ?_
  refine lv_aload_n hx hb dX4_brokenInto_19 rfl (lv_at hl 3 rfl) ?_
  refine x_get (k := 2) hE hK hI (by decide) inG2 (e_2 G o _ _) rfl 0 (by decide) mw_34 rfl dX4_brokenInto_20 ?_
  refine lv_iload hx hb dX4_brokenInto_23 (lv_at hl 0 rfl) ?_
  refine x_aald (k := 3) (j := 0) (t0 := 5) (q := o + 4) hE hK hI (by decide) (e_3 G o) rfl rfl (by decide) (by decide) rfl rfl dX4_brokenInto_25 ?_
  refine lv_iload_n hx hb dX4_brokenInto_26 rfl (lv_at hl 4 rfl) ?_
  refine x_iald (k := 4) (j := 1) hE hK hI (by decide) (e_4 G o) (by decide) (by decide) rfl dX4_brokenInto_27 ?_
  refine lv_i2l hx hb dX4_brokenInto_28 rfl ?_
  refine lv_lmul hx hb dX4_brokenInto_29 ?_
  refine lv_ladd hx hb dX4_brokenInto_30 ?_
  refine lv_lstore_n (lv' := [(3, .long (0 + ((Y 283 0) * ((X 4 1).toInt64)))), (5, .int 0), (0, .ref (o + 282)), (1, .ref (o + 2)), (2, .int 1)]) hx hb dX4_brokenInto_31 rfl hl (by decide) rfl (fun ls hl => ?_)
  refine lv_iinc (v := 1) (lv' := [(5, .int 1), (3, .long (0 + ((Y 283 0) * ((X 4 1).toInt64)))), (0, .ref (o + 282)), (1, .ref (o + 2)), (2, .int 1)]) hx hb dX4_brokenInto_32 hl (k := 1) rfl (by decide) (by decide) rfl (fun ls hl => ?_)
  refine lv_goto (tgt := 5) hx hb dX4_brokenInto_35 (by decide) ?_
  refine lv_iload hx hb dX4_brokenInto_5 (lv_at hl 0 rfl) ?_
  refine lv_iload_n hx hb dX4_brokenInto_7 rfl (lv_at hl 4 rfl) ?_
  refine lv_icmp_ge (tgt := 38) hx hb dX4_brokenInto_8 (by decide) (fun _ => ?_) (fun q => absurd (by decide) q)
  refine lv_lload_n hx hb dX4_brokenInto_38 rfl (lv_at hl 1 rfl) ?_
  exact x_lret hE hr hlocks hI rfl rfl rfl dX4_brokenInto_39
set_option maxRecDepth 100000 in
set_option maxHeartbeats 4000000 in
theorem c_X4_brokenInto_2 (l : Launch) (G : GG) (o : Nat) (X : SX) (Y : SY) : Ct l yX4_brokenInto cX4_brokenInto 6 (some .long) 0 0 G o [.ref (o + 282), .ref (o + 2), .int 2] X Y (some (.long (ent X Y 2))) X Y := by
  refine Ct.mk (by decide +kernel) (Nat.le_of_ble_eq_true rfl) rfl ?_
  intro p9 e9 s9 m9 args9 below9 meth9 c9 hE hr hlocks hK hI ls hl
  have hx := hE.1
  have hb := hE.2.1
  have hl : lv_has ls 6 [(0, .ref (o + 282)), (1, .ref (o + 2)), (2, .int 2)] := hl
  refine lv_lconst (v := 0) hx hb dX4_brokenInto_0 (by decide) ?_
  refine lv_lstore_n (lv' := [(3, .long 0), (0, .ref (o + 282)), (1, .ref (o + 2)), (2, .int 2)]) hx hb dX4_brokenInto_1 rfl hl (by decide) rfl (fun ls hl => ?_)
  refine lv_iconst (v := 0) hx hb dX4_brokenInto_2 (by decide) ?_
  refine lv_istore (lv' := [(5, .int 0), (3, .long 0), (0, .ref (o + 282)), (1, .ref (o + 2)), (2, .int 2)]) hx hb dX4_brokenInto_3 hl (by decide) rfl (fun ls hl => ?_)
  refine lv_iload hx hb dX4_brokenInto_5 (lv_at hl 0 rfl) ?_
  refine lv_iload_n hx hb dX4_brokenInto_7 rfl (lv_at hl 4 rfl) ?_
  refine lv_icmp_ge (tgt := 38) hx hb dX4_brokenInto_8 (by decide) (fun q => absurd q (by decide)) (fun _ => ?_)
  refine lv_lload_n hx hb dX4_brokenInto_11 rfl (lv_at hl 1 rfl) ?_
  refine lv_aload_n hx hb dX4_brokenInto_12 rfl (lv_at hl 2 rfl) ?_
  refine x_get (k := 282) hE hK hI (by decide) inG4 (e_282 G o _ _) rfl 0 (by decide) mw_154 rfl dX4_brokenInto_13 ?_
  refine lv_iload hx hb dX4_brokenInto_16 (lv_at hl 0 rfl) ?_
  refine x_lald (k := 283) (j := 0) hE hK hI (by decide) (e_283 G o) (by decide) (by decide) rfl dX4_brokenInto_18 ?_
  refine lv_aload_n hx hb dX4_brokenInto_19 rfl (lv_at hl 3 rfl) ?_
  refine x_get (k := 2) hE hK hI (by decide) inG2 (e_2 G o _ _) rfl 0 (by decide) mw_34 rfl dX4_brokenInto_20 ?_
  refine lv_iload hx hb dX4_brokenInto_23 (lv_at hl 0 rfl) ?_
  refine x_aald (k := 3) (j := 0) (t0 := 5) (q := o + 4) hE hK hI (by decide) (e_3 G o) rfl rfl (by decide) (by decide) rfl rfl dX4_brokenInto_25 ?_
  refine lv_iload_n hx hb dX4_brokenInto_26 rfl (lv_at hl 4 rfl) ?_
  refine x_iald (k := 4) (j := 2) hE hK hI (by decide) (e_4 G o) (by decide) (by decide) rfl dX4_brokenInto_27 ?_
  refine lv_i2l hx hb dX4_brokenInto_28 rfl ?_
  refine lv_lmul hx hb dX4_brokenInto_29 ?_
  refine lv_ladd hx hb dX4_brokenInto_30 ?_
  refine lv_lstore_n (lv' := [(3, .long (0 + ((Y 283 0) * ((X 4 2).toInt64)))), (5, .int 0), (0, .ref (o + 282)), (1, .ref (o + 2)), (2, .int 2)]) hx hb dX4_brokenInto_31 rfl hl (by decide) rfl (fun ls hl => ?_)
  refine lv_iinc (v := 1) (lv' := [(5, .int 1), (3, .long (0 + ((Y 283 0) * ((X 4 2).toInt64)))), (0, .ref (o + 282)), (1, .ref (o + 2)), (2, .int 2)]) hx hb dX4_brokenInto_32 hl (k := 1) rfl (by decide) (by decide) rfl (fun ls hl => ?_)
  refine lv_goto (tgt := 5) hx hb dX4_brokenInto_35 (by decide) ?_
  refine lv_iload hx hb dX4_brokenInto_5 (lv_at hl 0 rfl) ?_
  refine lv_iload_n hx hb dX4_brokenInto_7 rfl (lv_at hl 4 rfl) ?_
  refine lv_icmp_ge (tgt := 38) hx hb dX4_brokenInto_8 (by decide) (fun q => absurd q (by decide)) (fun _ => ?_)
  refine lv_lload_n hx hb dX4_brokenInto_11 rfl (lv_at hl 1 rfl) ?_
  refine lv_aload_n hx hb dX4_brokenInto_12 rfl (lv_at hl 2 rfl) ?_
  refine x_get (k := 282) hE hK hI (by decide) inG4 (e_282 G o _ _) rfl 0 (by decide) mw_154 rfl dX4_brokenInto_13 ?_
  refine lv_iload hx hb dX4_brokenInto_16 (lv_at hl 0 rfl) ?_
  refine x_lald (k := 283) (j := 1) hE hK hI (by decide) (e_283 G o) (by decide) (by decide) rfl dX4_brokenInto_18 ?_
  refine lv_aload_n hx hb dX4_brokenInto_19 rfl (lv_at hl 3 rfl) ?_
  refine x_get (k := 2) hE hK hI (by decide) inG2 (e_2 G o _ _) rfl 0 (by decide) mw_34 rfl dX4_brokenInto_20 ?_
  refine lv_iload hx hb dX4_brokenInto_23 (lv_at hl 0 rfl) ?_
  refine x_aald (k := 3) (j := 1) (t0 := 5) (q := o + 5) hE hK hI (by decide) (e_3 G o) rfl rfl (by decide) (by decide) rfl rfl dX4_brokenInto_25 ?_
  refine lv_iload_n hx hb dX4_brokenInto_26 rfl (lv_at hl 4 rfl) ?_
  refine x_iald (k := 5) (j := 2) hE hK hI (by decide) (e_5 G o) (by decide) (by decide) rfl dX4_brokenInto_27 ?_
  refine lv_i2l hx hb dX4_brokenInto_28 rfl ?_
  refine lv_lmul hx hb dX4_brokenInto_29 ?_
  refine lv_ladd hx hb dX4_brokenInto_30 ?_
  refine lv_lstore_n (lv' := [(3, .long ((0 + ((Y 283 0) * ((X 4 2).toInt64))) + ((Y 283 1) * ((X 5 2).toInt64)))), (5, .int 1), (0, .ref (o + 282)), (1, .ref (o + 2)), (2, .int 2)]) hx hb dX4_brokenInto_31 rfl hl (by decide) rfl (fun ls hl => ?_)
  refine lv_iinc (v := 2) (lv' := [(5, .int 2), (3, .long ((0 + ((Y 283 0) * ((X 4 2).toInt64))) + ((Y 283 1) * ((X 5 2).toInt64)))), (0, .ref (o + 282)), (1, .ref (o + 2)), (2, .int 2)]) hx hb dX4_brokenInto_32 hl (k := 1) rfl (by decide) (by decide) rfl (fun ls hl => ?_)
  refine lv_goto (tgt := 5) hx hb dX4_brokenInto_35 (by decide) ?_
  refine lv_iload hx hb dX4_brokenInto_5 (lv_at hl 0 rfl) ?_
  refine lv_iload_n hx hb dX4_brokenInto_7 rfl (lv_at hl 4 rfl) ?_
  refine lv_icmp_ge (tgt := 38) hx hb dX4_brokenInto_8 (by decide) (fun _ => ?_) (fun q => absurd (by decide) q)
  refine lv_lload_n hx hb dX4_brokenInto_38 rfl (lv_at hl 1 rfl) ?_
  exact x_lret hE hr hlocks hI rfl rfl rfl dX4_brokenInto_39
set_option maxRecDepth 100000 in
set_option maxHeartbeats 4000000 in
theorem c_X4_brokenInto_3 (l : Launch) (G : GG) (o : Nat) (X : SX) (Y : SY) : Ct l yX4_brokenInto cX4_brokenInto 6 (some .long) 0 0 G o [.ref (o + 282), .ref (o + 2), .int 3] X Y (some (.long (ent X Y 3))) X Y := by
  refine Ct.mk (by decide +kernel) (Nat.le_of_ble_eq_true rfl) rfl ?_
  intro p9 e9 s9 m9 args9 below9 meth9 c9 hE hr hlocks hK hI ls hl
  have hx := hE.1
  have hb := hE.2.1
  have hl : lv_has ls 6 [(0, .ref (o + 282)), (1, .ref (o + 2)), (2, .int 3)] := hl
  refine lv_lconst (v := 0) hx hb dX4_brokenInto_0 (by decide) ?_
  refine lv_lstore_n (lv' := [(3, .long 0), (0, .ref (o + 282)), (1, .ref (o + 2)), (2, .int 3)]) hx hb dX4_brokenInto_1 rfl hl (by decide) rfl (fun ls hl => ?_)
  refine lv_iconst (v := 0) hx hb dX4_brokenInto_2 (by decide) ?_
  refine lv_istore (lv' := [(5, .int 0), (3, .long 0), (0, .ref (o + 282)), (1, .ref (o + 2)), (2, .int 3)]) hx hb dX4_brokenInto_3 hl (by decide) rfl (fun ls hl => ?_)
  refine lv_iload hx hb dX4_brokenInto_5 (lv_at hl 0 rfl) ?_
  refine lv_iload_n hx hb dX4_brokenInto_7 rfl (lv_at hl 4 rfl) ?_
  refine lv_icmp_ge (tgt := 38) hx hb dX4_brokenInto_8 (by decide) (fun q => absurd q (by decide)) (fun _ => ?_)
  refine lv_lload_n hx hb dX4_brokenInto_11 rfl (lv_at hl 1 rfl) ?_
  refine lv_aload_n hx hb dX4_brokenInto_12 rfl (lv_at hl 2 rfl) ?_
  refine x_get (k := 282) hE hK hI (by decide) inG4 (e_282 G o _ _) rfl 0 (by decide) mw_154 rfl dX4_brokenInto_13 ?_
  refine lv_iload hx hb dX4_brokenInto_16 (lv_at hl 0 rfl) ?_
  refine x_lald (k := 283) (j := 0) hE hK hI (by decide) (e_283 G o) (by decide) (by decide) rfl dX4_brokenInto_18 ?_
  refine lv_aload_n hx hb dX4_brokenInto_19 rfl (lv_at hl 3 rfl) ?_
  refine x_get (k := 2) hE hK hI (by decide) inG2 (e_2 G o _ _) rfl 0 (by decide) mw_34 rfl dX4_brokenInto_20 ?_
  refine lv_iload hx hb dX4_brokenInto_23 (lv_at hl 0 rfl) ?_
  refine x_aald (k := 3) (j := 0) (t0 := 5) (q := o + 4) hE hK hI (by decide) (e_3 G o) rfl rfl (by decide) (by decide) rfl rfl dX4_brokenInto_25 ?_
  refine lv_iload_n hx hb dX4_brokenInto_26 rfl (lv_at hl 4 rfl) ?_
  refine x_iald (k := 4) (j := 3) hE hK hI (by decide) (e_4 G o) (by decide) (by decide) rfl dX4_brokenInto_27 ?_
  refine lv_i2l hx hb dX4_brokenInto_28 rfl ?_
  refine lv_lmul hx hb dX4_brokenInto_29 ?_
  refine lv_ladd hx hb dX4_brokenInto_30 ?_
  refine lv_lstore_n (lv' := [(3, .long (0 + ((Y 283 0) * ((X 4 3).toInt64)))), (5, .int 0), (0, .ref (o + 282)), (1, .ref (o + 2)), (2, .int 3)]) hx hb dX4_brokenInto_31 rfl hl (by decide) rfl (fun ls hl => ?_)
  refine lv_iinc (v := 1) (lv' := [(5, .int 1), (3, .long (0 + ((Y 283 0) * ((X 4 3).toInt64)))), (0, .ref (o + 282)), (1, .ref (o + 2)), (2, .int 3)]) hx hb dX4_brokenInto_32 hl (k := 1) rfl (by decide) (by decide) rfl (fun ls hl => ?_)
  refine lv_goto (tgt := 5) hx hb dX4_brokenInto_35 (by decide) ?_
  refine lv_iload hx hb dX4_brokenInto_5 (lv_at hl 0 rfl) ?_
  refine lv_iload_n hx hb dX4_brokenInto_7 rfl (lv_at hl 4 rfl) ?_
  refine lv_icmp_ge (tgt := 38) hx hb dX4_brokenInto_8 (by decide) (fun q => absurd q (by decide)) (fun _ => ?_)
  refine lv_lload_n hx hb dX4_brokenInto_11 rfl (lv_at hl 1 rfl) ?_
  refine lv_aload_n hx hb dX4_brokenInto_12 rfl (lv_at hl 2 rfl) ?_
  refine x_get (k := 282) hE hK hI (by decide) inG4 (e_282 G o _ _) rfl 0 (by decide) mw_154 rfl dX4_brokenInto_13 ?_
  refine lv_iload hx hb dX4_brokenInto_16 (lv_at hl 0 rfl) ?_
  refine x_lald (k := 283) (j := 1) hE hK hI (by decide) (e_283 G o) (by decide) (by decide) rfl dX4_brokenInto_18 ?_
  refine lv_aload_n hx hb dX4_brokenInto_19 rfl (lv_at hl 3 rfl) ?_
  refine x_get (k := 2) hE hK hI (by decide) inG2 (e_2 G o _ _) rfl 0 (by decide) mw_34 rfl dX4_brokenInto_20 ?_
  refine lv_iload hx hb dX4_brokenInto_23 (lv_at hl 0 rfl) ?_
  refine x_aald (k := 3) (j := 1) (t0 := 5) (q := o + 5) hE hK hI (by decide) (e_3 G o) rfl rfl (by decide) (by decide) rfl rfl dX4_brokenInto_25 ?_
  refine lv_iload_n hx hb dX4_brokenInto_26 rfl (lv_at hl 4 rfl) ?_
  refine x_iald (k := 5) (j := 3) hE hK hI (by decide) (e_5 G o) (by decide) (by decide) rfl dX4_brokenInto_27 ?_
  refine lv_i2l hx hb dX4_brokenInto_28 rfl ?_
  refine lv_lmul hx hb dX4_brokenInto_29 ?_
  refine lv_ladd hx hb dX4_brokenInto_30 ?_
  refine lv_lstore_n (lv' := [(3, .long ((0 + ((Y 283 0) * ((X 4 3).toInt64))) + ((Y 283 1) * ((X 5 3).toInt64)))), (5, .int 1), (0, .ref (o + 282)), (1, .ref (o + 2)), (2, .int 3)]) hx hb dX4_brokenInto_31 rfl hl (by decide) rfl (fun ls hl => ?_)
  refine lv_iinc (v := 2) (lv' := [(5, .int 2), (3, .long ((0 + ((Y 283 0) * ((X 4 3).toInt64))) + ((Y 283 1) * ((X 5 3).toInt64)))), (0, .ref (o + 282)), (1, .ref (o + 2)), (2, .int 3)]) hx hb dX4_brokenInto_32 hl (k := 1) rfl (by decide) (by decide) rfl (fun ls hl => ?_)
  refine lv_goto (tgt := 5) hx hb dX4_brokenInto_35 (by decide) ?_
  refine lv_iload hx hb dX4_brokenInto_5 (lv_at hl 0 rfl) ?_
  refine lv_iload_n hx hb dX4_brokenInto_7 rfl (lv_at hl 4 rfl) ?_
  refine lv_icmp_ge (tgt := 38) hx hb dX4_brokenInto_8 (by decide) (fun q => absurd q (by decide)) (fun _ => ?_)
  refine lv_lload_n hx hb dX4_brokenInto_11 rfl (lv_at hl 1 rfl) ?_
  refine lv_aload_n hx hb dX4_brokenInto_12 rfl (lv_at hl 2 rfl) ?_
  refine x_get (k := 282) hE hK hI (by decide) inG4 (e_282 G o _ _) rfl 0 (by decide) mw_154 rfl dX4_brokenInto_13 ?_
  refine lv_iload hx hb dX4_brokenInto_16 (lv_at hl 0 rfl) ?_
  refine x_lald (k := 283) (j := 2) hE hK hI (by decide) (e_283 G o) (by decide) (by decide) rfl dX4_brokenInto_18 ?_
  refine lv_aload_n hx hb dX4_brokenInto_19 rfl (lv_at hl 3 rfl) ?_
  refine x_get (k := 2) hE hK hI (by decide) inG2 (e_2 G o _ _) rfl 0 (by decide) mw_34 rfl dX4_brokenInto_20 ?_
  refine lv_iload hx hb dX4_brokenInto_23 (lv_at hl 0 rfl) ?_
  refine x_aald (k := 3) (j := 2) (t0 := 5) (q := o + 6) hE hK hI (by decide) (e_3 G o) rfl rfl (by decide) (by decide) rfl rfl dX4_brokenInto_25 ?_
  refine lv_iload_n hx hb dX4_brokenInto_26 rfl (lv_at hl 4 rfl) ?_
  refine x_iald (k := 6) (j := 3) hE hK hI (by decide) (e_6 G o) (by decide) (by decide) rfl dX4_brokenInto_27 ?_
  refine lv_i2l hx hb dX4_brokenInto_28 rfl ?_
  refine lv_lmul hx hb dX4_brokenInto_29 ?_
  refine lv_ladd hx hb dX4_brokenInto_30 ?_
  refine lv_lstore_n (lv' := [(3, .long (((0 + ((Y 283 0) * ((X 4 3).toInt64))) + ((Y 283 1) * ((X 5 3).toInt64))) + ((Y 283 2) * ((X 6 3).toInt64)))), (5, .int 2), (0, .ref (o + 282)), (1, .ref (o + 2)), (2, .int 3)]) hx hb dX4_brokenInto_31 rfl hl (by decide) rfl (fun ls hl => ?_)
  refine lv_iinc (v := 3) (lv' := [(5, .int 3), (3, .long (((0 + ((Y 283 0) * ((X 4 3).toInt64))) + ((Y 283 1) * ((X 5 3).toInt64))) + ((Y 283 2) * ((X 6 3).toInt64)))), (0, .ref (o + 282)), (1, .ref (o + 2)), (2, .int 3)]) hx hb dX4_brokenInto_32 hl (k := 1) rfl (by decide) (by decide) rfl (fun ls hl => ?_)
  refine lv_goto (tgt := 5) hx hb dX4_brokenInto_35 (by decide) ?_
  refine lv_iload hx hb dX4_brokenInto_5 (lv_at hl 0 rfl) ?_
  refine lv_iload_n hx hb dX4_brokenInto_7 rfl (lv_at hl 4 rfl) ?_
  refine lv_icmp_ge (tgt := 38) hx hb dX4_brokenInto_8 (by decide) (fun _ => ?_) (fun q => absurd (by decide) q)
  refine lv_lload_n hx hb dX4_brokenInto_38 rfl (lv_at hl 1 rfl) ?_
  exact x_lret hE hr hlocks hI rfl rfl rfl dX4_brokenInto_39
def ss0X (X : SX) (Y : SY) (r : Int32) : SX := if 100 - (r * (X 4 0)) = 0 then (if X 282 3 = 0 then (sx X 282 3 0) else (if X 10 0 = 0 then (if ent X Y 0 = 0 then (sx X 282 3 1) else (sx X 282 3 0)) else (sx X 282 3 0))) else X
def ss0Y (X : SX) (Y : SY) (r : Int32) : SY := if 100 - (r * (X 4 0)) = 0 then (sy Y 283 0 0) else (sy (sy Y 283 0 ((((100 * (X 10 0)).toInt64) * (Y 282 2)) + (r.toInt64 * (ent X Y 0)))) 282 2 ((Y 282 2) * ((100 - (r * (X 4 0))).toInt64)))
set_option maxRecDepth 100000 in
set_option maxHeartbeats 4000000 in
theorem c_X4_solveSize_0 (l : Launch) (G : GG) (o : Nat) (X : SX) (Y : SY) (r : Int32) : Ct l yX4_solveSize cX4_solveSize 9 none 1 25 G o [.ref (o + 282), .ref (o + 2), .int 0, .int r] X Y none (ss0X X Y r) (ss0Y X Y r) := by
  refine Ct.mk (by decide +kernel) (Nat.le_of_ble_eq_true rfl) rfl ?_
  intro p9 e9 s9 m9 args9 below9 meth9 c9 hE hr hlocks hK hI ls hl
  have hx := hE.1
  have hb := hE.2.1
  have hl : lv_has ls 9 [(0, .ref (o + 282)), (1, .ref (o + 2)), (2, .int 0), (3, .int r)] := hl
  refine lv_aload_n hx hb dX4_solveSize_0 rfl (lv_at hl 0 rfl) ?_
  refine lv_aload_n hx hb dX4_solveSize_1 rfl (lv_at hl 1 rfl) ?_
  refine lv_iload_n hx hb dX4_solveSize_2 rfl (lv_at hl 2 rfl) ?_
  refine x_callVl (k := 282) hE hK hI (c_X4_brokenInto_0 l G o _ _  ) mf_X4_brokenInto mw_239 (by decide) ((e_282 G o) _ _) rfl rfl hl.1 rfl (Nat.le_of_ble_eq_true rfl) ⟨(Nat.le_of_ble_eq_true rfl), (Nat.le_of_ble_eq_true rfl)⟩ ⟨Nat.zero_le _, Nat.zero_le _⟩ dX4_solveSize_3 (fun H locs hI => ?_)
  refine lv_lstore (lv' := [(4, .long (ent X Y 0)), (0, .ref (o + 282)), (1, .ref (o + 2)), (2, .int 0), (3, .int r)]) hx hb dX4_solveSize_6 hl (by decide) rfl (fun ls hl => ?_)
  refine lv_aload_n hx hb dX4_solveSize_8 rfl (lv_at hl 2 rfl) ?_
  refine x_get (k := 2) hE hK hI (by decide) inG2 (e_2 G o _ _) rfl 3 (by decide) mw_43 rfl dX4_solveSize_9 ?_
  refine lv_iload_n hx hb dX4_solveSize_12 rfl (lv_at hl 3 rfl) ?_
  refine x_iald (k := 10) (j := 0) hE hK hI (by decide) (e_10 G o) (by decide) (by decide) rfl dX4_solveSize_13 ?_
  refine lv_istore (lv' := [(6, .int (X 10 0)), (4, .long (ent X Y 0)), (0, .ref (o + 282)), (1, .ref (o + 2)), (2, .int 0), (3, .int r)]) hx hb dX4_solveSize_14 hl (by decide) rfl (fun ls hl => ?_)
  refine lv_bipush (v := 100) hx hb dX4_solveSize_16 (by decide) ?_
  refine lv_iload_n hx hb dX4_solveSize_18 rfl (lv_at hl 5 rfl) ?_
  refine lv_aload_n hx hb dX4_solveSize_19 rfl (lv_at hl 3 rfl) ?_
  refine x_get (k := 2) hE hK hI (by decide) inG2 (e_2 G o _ _) rfl 0 (by decide) mw_34 rfl dX4_solveSize_20 ?_
  refine lv_iload_n hx hb dX4_solveSize_23 rfl (lv_at hl 4 rfl) ?_
  refine x_aald (k := 3) (j := 0) (t0 := 5) (q := o + 4) hE hK hI (by decide) (e_3 G o) rfl rfl (by decide) (by decide) rfl rfl dX4_solveSize_24 ?_
  refine lv_iload_n hx hb dX4_solveSize_25 rfl (lv_at hl 4 rfl) ?_
  refine x_iald (k := 4) (j := 0) hE hK hI (by decide) (e_4 G o) (by decide) (by decide) rfl dX4_solveSize_26 ?_
  refine lv_imul hx hb dX4_solveSize_27 ?_
  refine lv_isub hx hb dX4_solveSize_28 ?_
  refine lv_istore (lv' := [(7, .int (100 - (r * (X 4 0)))), (6, .int (X 10 0)), (4, .long (ent X Y 0)), (0, .ref (o + 282)), (1, .ref (o + 2)), (2, .int 0), (3, .int r)]) hx hb dX4_solveSize_29 hl (by decide) rfl (fun ls hl => ?_)
  refine lv_iload hx hb dX4_solveSize_31 (lv_at hl 0 rfl) ?_
  refine lv_if_ne (tgt := 72) hx hb dX4_solveSize_33 (by decide) (fun c1 => ?_) (fun c1 => ?_)
  · refine lv_aload_n hx hb dX4_solveSize_72 rfl (lv_at hl 3 rfl) ?_
    refine x_get (k := 282) hE hK hI (by decide) inG4 (e_282 G o _ _) rfl 0 (by decide) mw_154 rfl dX4_solveSize_73 ?_
    refine lv_iload_n hx hb dX4_solveSize_76 rfl (lv_at hl 5 rfl) ?_
    refine lv_bipush (v := 100) hx hb dX4_solveSize_77 (by decide) ?_
    refine lv_iload hx hb dX4_solveSize_79 (lv_at hl 1 rfl) ?_
    refine lv_imul hx hb dX4_solveSize_81 ?_
    refine lv_i2l hx hb dX4_solveSize_82 rfl ?_
    refine lv_aload_n hx hb dX4_solveSize_83 rfl (lv_at hl 3 rfl) ?_
    refine x_get (k := 282) hE hK hI (by decide) inG4 (e_282 G o _ _) rfl 2 (by decide) mw_157 rfl dX4_solveSize_84 ?_
    refine lv_lmul hx hb dX4_solveSize_87 ?_
    refine lv_iload_n hx hb dX4_solveSize_88 rfl (lv_at hl 6 rfl) ?_
    refine lv_i2l hx hb dX4_solveSize_89 rfl ?_
    refine lv_lload hx hb dX4_solveSize_90 (lv_at hl 2 rfl) ?_
    refine lv_lmul hx hb dX4_solveSize_92 ?_
    refine lv_ladd hx hb dX4_solveSize_93 ?_
    refine x_last (k := 283) (j := 0) hE hK hI (by decide) (e_283 G o) (by decide) (by decide) rfl dX4_solveSize_94 (fun H locs hI => ?_)
    refine lv_aload_n hx hb dX4_solveSize_95 rfl (lv_at hl 3 rfl) ?_
    refine lv_dup hx hb dX4_solveSize_96 rfl ?_
    refine x_get (k := 282) hE hK hI (by decide) inG4 (e_282 G o _ _) rfl 2 (by decide) mw_157 rfl dX4_solveSize_97 ?_
    refine lv_topl (fun z2 ez2 => ?_)
    obtain rfl : Y 282 2 = z2 := (ez2.trans ((sy_o (by decide)))).symm
    refine lv_iload hx hb dX4_solveSize_100 (lv_at hl 0 rfl) ?_
    refine lv_i2l hx hb dX4_solveSize_102 rfl ?_
    refine lv_lmul hx hb dX4_solveSize_103 ?_
    refine x_putl (k := 282) hE hK hI (by decide) inG4 tyX4 tyX4_ok nmX4 (e_282 G o) rfl 2 (by decide) mw_157 rfl (by decide +kernel) (by exact Nat.le_of_ble_eq_true rfl) rfl dX4_solveSize_104 (fun H locs hI => ?_)
    refine lv_iconst (v := 0) hx hb dX4_solveSize_107 (by decide) ?_
    refine lv_istore (lv' := [(8, .int 0), (7, .int (100 - (r * (X 4 0)))), (6, .int (X 10 0)), (4, .long (ent X Y 0)), (0, .ref (o + 282)), (1, .ref (o + 2)), (2, .int 0), (3, .int r)]) hx hb dX4_solveSize_108 hl (by decide) rfl (fun ls hl => ?_)
    refine lv_iload hx hb dX4_solveSize_110 (lv_at hl 0 rfl) ?_
    refine lv_iload_n hx hb dX4_solveSize_112 rfl (lv_at hl 6 rfl) ?_
    refine lv_icmp_ge (tgt := 135) hx hb dX4_solveSize_113 (by decide) (fun _ => ?_) (fun q => absurd (by decide) q)
    exact x_vret hE hr hlocks hI rfl ((if_neg c1).symm) ((if_neg c1).symm) dX4_solveSize_135
  · refine lv_aload_n hx hb dX4_solveSize_36 rfl (lv_at hl 3 rfl) ?_
    refine x_get (k := 282) hE hK hI (by decide) inG4 (e_282 G o _ _) rfl 0 (by decide) mw_154 rfl dX4_solveSize_37 ?_
    refine lv_iload_n hx hb dX4_solveSize_40 rfl (lv_at hl 5 rfl) ?_
    refine lv_lconst (v := 0) hx hb dX4_solveSize_41 (by decide) ?_
    refine x_last (k := 283) (j := 0) hE hK hI (by decide) (e_283 G o) (by decide) (by decide) rfl dX4_solveSize_42 (fun H locs hI => ?_)
    refine lv_aload_n hx hb dX4_solveSize_43 rfl (lv_at hl 3 rfl) ?_
    refine lv_aload_n hx hb dX4_solveSize_44 rfl (lv_at hl 3 rfl) ?_
    refine x_get (k := 282) hE hK hI (by decide) inG4 (e_282 G o _ _) rfl 3 (by decide) mw_159 rfl dX4_solveSize_45 ?_
    refine lv_if_eq (tgt := 67) hx hb dX4_solveSize_48 (by decide) (fun c3 => ?_) (fun c3 => ?_)
    · refine lv_iconst (v := 0) hx hb dX4_solveSize_67 (by decide) ?_
      refine x_putz (k := 282) hE hK hI (by decide) inG4 tyX4 tyX4_ok nmX4 (e_282 G o) rfl 3 (by decide) mw_159 rfl (by decide +kernel) (by exact Nat.le_of_ble_eq_true rfl) (by decide) rfl dX4_solveSize_68 (fun H locs hI => ?_)
      exact x_vret hE hr hlocks hI rfl (((if_pos c1).trans (if_pos c3)).symm) ((if_pos c1).symm) dX4_solveSize_71
    · refine lv_iload hx hb dX4_solveSize_51 (lv_at hl 1 rfl) ?_
      refine lv_if_ne (tgt := 67) hx hb dX4_solveSize_53 (by decide) (fun c4 => ?_) (fun c4 => ?_)
      · refine lv_iconst (v := 0) hx hb dX4_solveSize_67 (by decide) ?_
        refine x_putz (k := 282) hE hK hI (by decide) inG4 tyX4 tyX4_ok nmX4 (e_282 G o) rfl 3 (by decide) mw_159 rfl (by decide +kernel) (by exact Nat.le_of_ble_eq_true rfl) (by decide) rfl dX4_solveSize_68 (fun H locs hI => ?_)
        exact x_vret hE hr hlocks hI rfl (((if_pos c1).trans ((if_neg c3).trans (if_neg c4))).symm) ((if_pos c1).symm) dX4_solveSize_71
      · refine lv_lload hx hb dX4_solveSize_56 (lv_at hl 2 rfl) ?_
        refine lv_lconst (v := 0) hx hb dX4_solveSize_58 (by decide) ?_
        refine W.lcmp hx hb dX4_solveSize_59 ?_
        refine lv_if_ne (tgt := 67) hx hb dX4_solveSize_60 (by decide) (fun c5 => ?_) (fun c5 => ?_)
        · have c5 := mt (lg_cmp_eq _ _).mpr c5
          refine lv_iconst (v := 0) hx hb dX4_solveSize_67 (by decide) ?_
          refine x_putz (k := 282) hE hK hI (by decide) inG4 tyX4 tyX4_ok nmX4 (e_282 G o) rfl 3 (by decide) mw_159 rfl (by decide +kernel) (by exact Nat.le_of_ble_eq_true rfl) (by decide) rfl dX4_solveSize_68 (fun H locs hI => ?_)
          exact x_vret hE hr hlocks hI rfl (((if_pos c1).trans ((if_neg c3).trans ((if_pos c4).trans (if_neg c5)))).symm) ((if_pos c1).symm) dX4_solveSize_71
        · have c5 := (lg_cmp_eq _ _).mp c5
          refine lv_iconst (v := 1) hx hb dX4_solveSize_63 (by decide) ?_
          refine lv_goto (tgt := 68) hx hb dX4_solveSize_64 (by decide) ?_
          refine x_putz (k := 282) hE hK hI (by decide) inG4 tyX4 tyX4_ok nmX4 (e_282 G o) rfl 3 (by decide) mw_159 rfl (by decide +kernel) (by exact Nat.le_of_ble_eq_true rfl) (by decide) rfl dX4_solveSize_68 (fun H locs hI => ?_)
          exact x_vret hE hr hlocks hI rfl (((if_pos c1).trans ((if_neg c3).trans ((if_pos c4).trans (if_pos c5)))).symm) ((if_pos c1).symm) dX4_solveSize_71
theorem ss0X_o {X : SX} {Y : SY} {r : Int32} {k i : Nat} (h : k ≠ 282) : ss0X X Y r k i = X k i := by
  unfold ss0X
  repeat' split
  all_goals first | rfl | exact sx_o (fun q => h q.1)
def ss1X (X : SX) (Y : SY) (r : Int32) : SX := if 100 - (r * (X 5 1)) = 0 then (if X 282 3 = 0 then (sx X 282 3 0) else (if X 10 1 = 0 then (if ent X Y 1 = 0 then (sx X 282 3 1) else (sx X 282 3 0)) else (sx X 282 3 0))) else X
def ss1Y (X : SX) (Y : SY) (r : Int32) : SY := if 100 - (r * (X 5 1)) = 0 then (sy Y 283 1 0) else (sy (sy (sy Y 283 1 ((((100 * (X 10 1)).toInt64) * (Y 282 2)) + (r.toInt64 * (ent X Y 1)))) 282 2 ((Y 282 2) * ((100 - (r * (X 5 1))).toInt64))) 283 0 ((Y 283 0) * ((100 - (r * (X 5 1))).toInt64)))
set_option maxRecDepth 100000 in
set_option maxHeartbeats 4000000 in
theorem c_X4_solveSize_1 (l : Launch) (G : GG) (o : Nat) (X : SX) (Y : SY) (r : Int32) : Ct l yX4_solveSize cX4_solveSize 9 none 1 25 G o [.ref (o + 282), .ref (o + 2), .int 1, .int r] X Y none (ss1X X Y r) (ss1Y X Y r) := by
  refine Ct.mk (by decide +kernel) (Nat.le_of_ble_eq_true rfl) rfl ?_
  intro p9 e9 s9 m9 args9 below9 meth9 c9 hE hr hlocks hK hI ls hl
  have hx := hE.1
  have hb := hE.2.1
  have hl : lv_has ls 9 [(0, .ref (o + 282)), (1, .ref (o + 2)), (2, .int 1), (3, .int r)] := hl
  refine lv_aload_n hx hb dX4_solveSize_0 rfl (lv_at hl 0 rfl) ?_
  refine lv_aload_n hx hb dX4_solveSize_1 rfl (lv_at hl 1 rfl) ?_
  refine lv_iload_n hx hb dX4_solveSize_2 rfl (lv_at hl 2 rfl) ?_
  refine x_callVl (k := 282) hE hK hI (c_X4_brokenInto_1 l G o _ _  ) mf_X4_brokenInto mw_239 (by decide) ((e_282 G o) _ _) rfl rfl hl.1 rfl (Nat.le_of_ble_eq_true rfl) ⟨(Nat.le_of_ble_eq_true rfl), (Nat.le_of_ble_eq_true rfl)⟩ ⟨Nat.zero_le _, Nat.zero_le _⟩ dX4_solveSize_3 (fun H locs hI => ?_)
  refine lv_lstore (lv' := [(4, .long (ent X Y 1)), (0, .ref (o + 282)), (1, .ref (o + 2)), (2, .int 1), (3, .int r)]) hx hb dX4_solveSize_6 hl (by decide) rfl (fun ls hl => ?_)
  refine lv_aload_n hx hb dX4_solveSize_8 rfl (lv_at hl 2 rfl) ?_
  refine x_get (k := 2) hE hK hI (by decide) inG2 (e_2 G o _ _) rfl 3 (by decide) mw_43 rfl dX4_solveSize_9 ?_
  refine lv_iload_n hx hb dX4_solveSize_12 rfl (lv_at hl 3 rfl) ?_
  refine x_iald (k := 10) (j := 1) hE hK hI (by decide) (e_10 G o) (by decide) (by decide) rfl dX4_solveSize_13 ?_
  refine lv_istore (lv' := [(6, .int (X 10 1)), (4, .long (ent X Y 1)), (0, .ref (o + 282)), (1, .ref (o + 2)), (2, .int 1), (3, .int r)]) hx hb dX4_solveSize_14 hl (by decide) rfl (fun ls hl => ?_)
  refine lv_bipush (v := 100) hx hb dX4_solveSize_16 (by decide) ?_
  refine lv_iload_n hx hb dX4_solveSize_18 rfl (lv_at hl 5 rfl) ?_
  refine lv_aload_n hx hb dX4_solveSize_19 rfl (lv_at hl 3 rfl) ?_
  refine x_get (k := 2) hE hK hI (by decide) inG2 (e_2 G o _ _) rfl 0 (by decide) mw_34 rfl dX4_solveSize_20 ?_
  refine lv_iload_n hx hb dX4_solveSize_23 rfl (lv_at hl 4 rfl) ?_
  refine x_aald (k := 3) (j := 1) (t0 := 5) (q := o + 5) hE hK hI (by decide) (e_3 G o) rfl rfl (by decide) (by decide) rfl rfl dX4_solveSize_24 ?_
  refine lv_iload_n hx hb dX4_solveSize_25 rfl (lv_at hl 4 rfl) ?_
  refine x_iald (k := 5) (j := 1) hE hK hI (by decide) (e_5 G o) (by decide) (by decide) rfl dX4_solveSize_26 ?_
  refine lv_imul hx hb dX4_solveSize_27 ?_
  refine lv_isub hx hb dX4_solveSize_28 ?_
  refine lv_istore (lv' := [(7, .int (100 - (r * (X 5 1)))), (6, .int (X 10 1)), (4, .long (ent X Y 1)), (0, .ref (o + 282)), (1, .ref (o + 2)), (2, .int 1), (3, .int r)]) hx hb dX4_solveSize_29 hl (by decide) rfl (fun ls hl => ?_)
  refine lv_iload hx hb dX4_solveSize_31 (lv_at hl 0 rfl) ?_
  refine lv_if_ne (tgt := 72) hx hb dX4_solveSize_33 (by decide) (fun c1 => ?_) (fun c1 => ?_)
  · refine lv_aload_n hx hb dX4_solveSize_72 rfl (lv_at hl 3 rfl) ?_
    refine x_get (k := 282) hE hK hI (by decide) inG4 (e_282 G o _ _) rfl 0 (by decide) mw_154 rfl dX4_solveSize_73 ?_
    refine lv_iload_n hx hb dX4_solveSize_76 rfl (lv_at hl 5 rfl) ?_
    refine lv_bipush (v := 100) hx hb dX4_solveSize_77 (by decide) ?_
    refine lv_iload hx hb dX4_solveSize_79 (lv_at hl 1 rfl) ?_
    refine lv_imul hx hb dX4_solveSize_81 ?_
    refine lv_i2l hx hb dX4_solveSize_82 rfl ?_
    refine lv_aload_n hx hb dX4_solveSize_83 rfl (lv_at hl 3 rfl) ?_
    refine x_get (k := 282) hE hK hI (by decide) inG4 (e_282 G o _ _) rfl 2 (by decide) mw_157 rfl dX4_solveSize_84 ?_
    refine lv_lmul hx hb dX4_solveSize_87 ?_
    refine lv_iload_n hx hb dX4_solveSize_88 rfl (lv_at hl 6 rfl) ?_
    refine lv_i2l hx hb dX4_solveSize_89 rfl ?_
    refine lv_lload hx hb dX4_solveSize_90 (lv_at hl 2 rfl) ?_
    refine lv_lmul hx hb dX4_solveSize_92 ?_
    refine lv_ladd hx hb dX4_solveSize_93 ?_
    refine x_last (k := 283) (j := 1) hE hK hI (by decide) (e_283 G o) (by decide) (by decide) rfl dX4_solveSize_94 (fun H locs hI => ?_)
    refine lv_aload_n hx hb dX4_solveSize_95 rfl (lv_at hl 3 rfl) ?_
    refine lv_dup hx hb dX4_solveSize_96 rfl ?_
    refine x_get (k := 282) hE hK hI (by decide) inG4 (e_282 G o _ _) rfl 2 (by decide) mw_157 rfl dX4_solveSize_97 ?_
    refine lv_topl (fun z2 ez2 => ?_)
    obtain rfl : Y 282 2 = z2 := (ez2.trans ((sy_o (by decide)))).symm
    refine lv_iload hx hb dX4_solveSize_100 (lv_at hl 0 rfl) ?_
    refine lv_i2l hx hb dX4_solveSize_102 rfl ?_
    refine lv_lmul hx hb dX4_solveSize_103 ?_
    refine x_putl (k := 282) hE hK hI (by decide) inG4 tyX4 tyX4_ok nmX4 (e_282 G o) rfl 2 (by decide) mw_157 rfl (by decide +kernel) (by exact Nat.le_of_ble_eq_true rfl) rfl dX4_solveSize_104 (fun H locs hI => ?_)
    refine lv_iconst (v := 0) hx hb dX4_solveSize_107 (by decide) ?_
    refine lv_istore (lv' := [(8, .int 0), (7, .int (100 - (r * (X 5 1)))), (6, .int (X 10 1)), (4, .long (ent X Y 1)), (0, .ref (o + 282)), (1, .ref (o + 2)), (2, .int 1), (3, .int r)]) hx hb dX4_solveSize_108 hl (by decide) rfl (fun ls hl => ?_)
    refine lv_iload hx hb dX4_solveSize_110 (lv_at hl 0 rfl) ?_
    refine lv_iload_n hx hb dX4_solveSize_112 rfl (lv_at hl 6 rfl) ?_
    refine lv_icmp_ge (tgt := 135) hx hb dX4_solveSize_113 (by decide) (fun q => absurd q (by decide)) (fun _ => ?_)
    refine lv_aload_n hx hb dX4_solveSize_116 rfl (lv_at hl 4 rfl) ?_
    refine x_get (k := 282) hE hK hI (by decide) inG4 (e_282 G o _ _) rfl 0 (by decide) mw_154 rfl dX4_solveSize_117 ?_
    refine lv_iload hx hb dX4_solveSize_120 (lv_at hl 0 rfl) ?_
    refine lv_dup2_11 hx hb dX4_solveSize_122 rfl rfl ?_
    refine x_lald (k := 283) (j := 0) hE hK hI (by decide) (e_283 G o) (by decide) (by decide) rfl dX4_solveSize_123 ?_
    refine lv_topl (fun z3 ez3 => ?_)
    obtain rfl : Y 283 0 = z3 := (ez3.trans ((sy_o (by decide)).trans ((sy_o (by decide))))).symm
    refine lv_iload hx hb dX4_solveSize_124 (lv_at hl 1 rfl) ?_
    refine lv_i2l hx hb dX4_solveSize_126 rfl ?_
    refine lv_lmul hx hb dX4_solveSize_127 ?_
    refine x_last (k := 283) (j := 0) hE hK hI (by decide) (e_283 G o) (by decide) (by decide) rfl dX4_solveSize_128 (fun H locs hI => ?_)
    refine lv_iinc (v := 1) (lv' := [(8, .int 1), (7, .int (100 - (r * (X 5 1)))), (6, .int (X 10 1)), (4, .long (ent X Y 1)), (0, .ref (o + 282)), (1, .ref (o + 2)), (2, .int 1), (3, .int r)]) hx hb dX4_solveSize_129 hl (k := 0) rfl (by decide) (by decide) rfl (fun ls hl => ?_)
    refine lv_goto (tgt := 110) hx hb dX4_solveSize_132 (by decide) ?_
    refine lv_iload hx hb dX4_solveSize_110 (lv_at hl 0 rfl) ?_
    refine lv_iload_n hx hb dX4_solveSize_112 rfl (lv_at hl 6 rfl) ?_
    refine lv_icmp_ge (tgt := 135) hx hb dX4_solveSize_113 (by decide) (fun _ => ?_) (fun q => absurd (by decide) q)
    exact x_vret hE hr hlocks hI rfl ((if_neg c1).symm) ((if_neg c1).symm) dX4_solveSize_135
  · refine lv_aload_n hx hb dX4_solveSize_36 rfl (lv_at hl 3 rfl) ?_
    refine x_get (k := 282) hE hK hI (by decide) inG4 (e_282 G o _ _) rfl 0 (by decide) mw_154 rfl dX4_solveSize_37 ?_
    refine lv_iload_n hx hb dX4_solveSize_40 rfl (lv_at hl 5 rfl) ?_
    refine lv_lconst (v := 0) hx hb dX4_solveSize_41 (by decide) ?_
    refine x_last (k := 283) (j := 1) hE hK hI (by decide) (e_283 G o) (by decide) (by decide) rfl dX4_solveSize_42 (fun H locs hI => ?_)
    refine lv_aload_n hx hb dX4_solveSize_43 rfl (lv_at hl 3 rfl) ?_
    refine lv_aload_n hx hb dX4_solveSize_44 rfl (lv_at hl 3 rfl) ?_
    refine x_get (k := 282) hE hK hI (by decide) inG4 (e_282 G o _ _) rfl 3 (by decide) mw_159 rfl dX4_solveSize_45 ?_
    refine lv_if_eq (tgt := 67) hx hb dX4_solveSize_48 (by decide) (fun c4 => ?_) (fun c4 => ?_)
    · refine lv_iconst (v := 0) hx hb dX4_solveSize_67 (by decide) ?_
      refine x_putz (k := 282) hE hK hI (by decide) inG4 tyX4 tyX4_ok nmX4 (e_282 G o) rfl 3 (by decide) mw_159 rfl (by decide +kernel) (by exact Nat.le_of_ble_eq_true rfl) (by decide) rfl dX4_solveSize_68 (fun H locs hI => ?_)
      exact x_vret hE hr hlocks hI rfl (((if_pos c1).trans (if_pos c4)).symm) ((if_pos c1).symm) dX4_solveSize_71
    · refine lv_iload hx hb dX4_solveSize_51 (lv_at hl 1 rfl) ?_
      refine lv_if_ne (tgt := 67) hx hb dX4_solveSize_53 (by decide) (fun c5 => ?_) (fun c5 => ?_)
      · refine lv_iconst (v := 0) hx hb dX4_solveSize_67 (by decide) ?_
        refine x_putz (k := 282) hE hK hI (by decide) inG4 tyX4 tyX4_ok nmX4 (e_282 G o) rfl 3 (by decide) mw_159 rfl (by decide +kernel) (by exact Nat.le_of_ble_eq_true rfl) (by decide) rfl dX4_solveSize_68 (fun H locs hI => ?_)
        exact x_vret hE hr hlocks hI rfl (((if_pos c1).trans ((if_neg c4).trans (if_neg c5))).symm) ((if_pos c1).symm) dX4_solveSize_71
      · refine lv_lload hx hb dX4_solveSize_56 (lv_at hl 2 rfl) ?_
        refine lv_lconst (v := 0) hx hb dX4_solveSize_58 (by decide) ?_
        refine W.lcmp hx hb dX4_solveSize_59 ?_
        refine lv_if_ne (tgt := 67) hx hb dX4_solveSize_60 (by decide) (fun c6 => ?_) (fun c6 => ?_)
        · have c6 := mt (lg_cmp_eq _ _).mpr c6
          refine lv_iconst (v := 0) hx hb dX4_solveSize_67 (by decide) ?_
          refine x_putz (k := 282) hE hK hI (by decide) inG4 tyX4 tyX4_ok nmX4 (e_282 G o) rfl 3 (by decide) mw_159 rfl (by decide +kernel) (by exact Nat.le_of_ble_eq_true rfl) (by decide) rfl dX4_solveSize_68 (fun H locs hI => ?_)
          exact x_vret hE hr hlocks hI rfl (((if_pos c1).trans ((if_neg c4).trans ((if_pos c5).trans (if_neg c6)))).symm) ((if_pos c1).symm) dX4_solveSize_71
        · have c6 := (lg_cmp_eq _ _).mp c6
          refine lv_iconst (v := 1) hx hb dX4_solveSize_63 (by decide) ?_
          refine lv_goto (tgt := 68) hx hb dX4_solveSize_64 (by decide) ?_
          refine x_putz (k := 282) hE hK hI (by decide) inG4 tyX4 tyX4_ok nmX4 (e_282 G o) rfl 3 (by decide) mw_159 rfl (by decide +kernel) (by exact Nat.le_of_ble_eq_true rfl) (by decide) rfl dX4_solveSize_68 (fun H locs hI => ?_)
          exact x_vret hE hr hlocks hI rfl (((if_pos c1).trans ((if_neg c4).trans ((if_pos c5).trans (if_pos c6)))).symm) ((if_pos c1).symm) dX4_solveSize_71
theorem ss1X_o {X : SX} {Y : SY} {r : Int32} {k i : Nat} (h : k ≠ 282) : ss1X X Y r k i = X k i := by
  unfold ss1X
  repeat' split
  all_goals first | rfl | exact sx_o (fun q => h q.1)
def ss2X (X : SX) (Y : SY) (r : Int32) : SX := if 100 - (r * (X 6 2)) = 0 then (if X 282 3 = 0 then (sx X 282 3 0) else (if X 10 2 = 0 then (if ent X Y 2 = 0 then (sx X 282 3 1) else (sx X 282 3 0)) else (sx X 282 3 0))) else X
def ss2Y (X : SX) (Y : SY) (r : Int32) : SY := if 100 - (r * (X 6 2)) = 0 then (sy Y 283 2 0) else (sy (sy (sy (sy Y 283 2 ((((100 * (X 10 2)).toInt64) * (Y 282 2)) + (r.toInt64 * (ent X Y 2)))) 282 2 ((Y 282 2) * ((100 - (r * (X 6 2))).toInt64))) 283 0 ((Y 283 0) * ((100 - (r * (X 6 2))).toInt64))) 283 1 ((Y 283 1) * ((100 - (r * (X 6 2))).toInt64)))
set_option maxRecDepth 100000 in
set_option maxHeartbeats 4000000 in
theorem c_X4_solveSize_2 (l : Launch) (G : GG) (o : Nat) (X : SX) (Y : SY) (r : Int32) : Ct l yX4_solveSize cX4_solveSize 9 none 1 25 G o [.ref (o + 282), .ref (o + 2), .int 2, .int r] X Y none (ss2X X Y r) (ss2Y X Y r) := by
  refine Ct.mk (by decide +kernel) (Nat.le_of_ble_eq_true rfl) rfl ?_
  intro p9 e9 s9 m9 args9 below9 meth9 c9 hE hr hlocks hK hI ls hl
  have hx := hE.1
  have hb := hE.2.1
  have hl : lv_has ls 9 [(0, .ref (o + 282)), (1, .ref (o + 2)), (2, .int 2), (3, .int r)] := hl
  refine lv_aload_n hx hb dX4_solveSize_0 rfl (lv_at hl 0 rfl) ?_
  refine lv_aload_n hx hb dX4_solveSize_1 rfl (lv_at hl 1 rfl) ?_
  refine lv_iload_n hx hb dX4_solveSize_2 rfl (lv_at hl 2 rfl) ?_
  refine x_callVl (k := 282) hE hK hI (c_X4_brokenInto_2 l G o _ _  ) mf_X4_brokenInto mw_239 (by decide) ((e_282 G o) _ _) rfl rfl hl.1 rfl (Nat.le_of_ble_eq_true rfl) ⟨(Nat.le_of_ble_eq_true rfl), (Nat.le_of_ble_eq_true rfl)⟩ ⟨Nat.zero_le _, Nat.zero_le _⟩ dX4_solveSize_3 (fun H locs hI => ?_)
  refine lv_lstore (lv' := [(4, .long (ent X Y 2)), (0, .ref (o + 282)), (1, .ref (o + 2)), (2, .int 2), (3, .int r)]) hx hb dX4_solveSize_6 hl (by decide) rfl (fun ls hl => ?_)
  refine lv_aload_n hx hb dX4_solveSize_8 rfl (lv_at hl 2 rfl) ?_
  refine x_get (k := 2) hE hK hI (by decide) inG2 (e_2 G o _ _) rfl 3 (by decide) mw_43 rfl dX4_solveSize_9 ?_
  refine lv_iload_n hx hb dX4_solveSize_12 rfl (lv_at hl 3 rfl) ?_
  refine x_iald (k := 10) (j := 2) hE hK hI (by decide) (e_10 G o) (by decide) (by decide) rfl dX4_solveSize_13 ?_
  refine lv_istore (lv' := [(6, .int (X 10 2)), (4, .long (ent X Y 2)), (0, .ref (o + 282)), (1, .ref (o + 2)), (2, .int 2), (3, .int r)]) hx hb dX4_solveSize_14 hl (by decide) rfl (fun ls hl => ?_)
  refine lv_bipush (v := 100) hx hb dX4_solveSize_16 (by decide) ?_
  refine lv_iload_n hx hb dX4_solveSize_18 rfl (lv_at hl 5 rfl) ?_
  refine lv_aload_n hx hb dX4_solveSize_19 rfl (lv_at hl 3 rfl) ?_
  refine x_get (k := 2) hE hK hI (by decide) inG2 (e_2 G o _ _) rfl 0 (by decide) mw_34 rfl dX4_solveSize_20 ?_
  refine lv_iload_n hx hb dX4_solveSize_23 rfl (lv_at hl 4 rfl) ?_
  refine x_aald (k := 3) (j := 2) (t0 := 5) (q := o + 6) hE hK hI (by decide) (e_3 G o) rfl rfl (by decide) (by decide) rfl rfl dX4_solveSize_24 ?_
  refine lv_iload_n hx hb dX4_solveSize_25 rfl (lv_at hl 4 rfl) ?_
  refine x_iald (k := 6) (j := 2) hE hK hI (by decide) (e_6 G o) (by decide) (by decide) rfl dX4_solveSize_26 ?_
  refine lv_imul hx hb dX4_solveSize_27 ?_
  refine lv_isub hx hb dX4_solveSize_28 ?_
  refine lv_istore (lv' := [(7, .int (100 - (r * (X 6 2)))), (6, .int (X 10 2)), (4, .long (ent X Y 2)), (0, .ref (o + 282)), (1, .ref (o + 2)), (2, .int 2), (3, .int r)]) hx hb dX4_solveSize_29 hl (by decide) rfl (fun ls hl => ?_)
  refine lv_iload hx hb dX4_solveSize_31 (lv_at hl 0 rfl) ?_
  refine lv_if_ne (tgt := 72) hx hb dX4_solveSize_33 (by decide) (fun c1 => ?_) (fun c1 => ?_)
  · refine lv_aload_n hx hb dX4_solveSize_72 rfl (lv_at hl 3 rfl) ?_
    refine x_get (k := 282) hE hK hI (by decide) inG4 (e_282 G o _ _) rfl 0 (by decide) mw_154 rfl dX4_solveSize_73 ?_
    refine lv_iload_n hx hb dX4_solveSize_76 rfl (lv_at hl 5 rfl) ?_
    refine lv_bipush (v := 100) hx hb dX4_solveSize_77 (by decide) ?_
    refine lv_iload hx hb dX4_solveSize_79 (lv_at hl 1 rfl) ?_
    refine lv_imul hx hb dX4_solveSize_81 ?_
    refine lv_i2l hx hb dX4_solveSize_82 rfl ?_
    refine lv_aload_n hx hb dX4_solveSize_83 rfl (lv_at hl 3 rfl) ?_
    refine x_get (k := 282) hE hK hI (by decide) inG4 (e_282 G o _ _) rfl 2 (by decide) mw_157 rfl dX4_solveSize_84 ?_
    refine lv_lmul hx hb dX4_solveSize_87 ?_
    refine lv_iload_n hx hb dX4_solveSize_88 rfl (lv_at hl 6 rfl) ?_
    refine lv_i2l hx hb dX4_solveSize_89 rfl ?_
    refine lv_lload hx hb dX4_solveSize_90 (lv_at hl 2 rfl) ?_
    refine lv_lmul hx hb dX4_solveSize_92 ?_
    refine lv_ladd hx hb dX4_solveSize_93 ?_
    refine x_last (k := 283) (j := 2) hE hK hI (by decide) (e_283 G o) (by decide) (by decide) rfl dX4_solveSize_94 (fun H locs hI => ?_)
    refine lv_aload_n hx hb dX4_solveSize_95 rfl (lv_at hl 3 rfl) ?_
    refine lv_dup hx hb dX4_solveSize_96 rfl ?_
    refine x_get (k := 282) hE hK hI (by decide) inG4 (e_282 G o _ _) rfl 2 (by decide) mw_157 rfl dX4_solveSize_97 ?_
    refine lv_topl (fun z2 ez2 => ?_)
    obtain rfl : Y 282 2 = z2 := (ez2.trans ((sy_o (by decide)))).symm
    refine lv_iload hx hb dX4_solveSize_100 (lv_at hl 0 rfl) ?_
    refine lv_i2l hx hb dX4_solveSize_102 rfl ?_
    refine lv_lmul hx hb dX4_solveSize_103 ?_
    refine x_putl (k := 282) hE hK hI (by decide) inG4 tyX4 tyX4_ok nmX4 (e_282 G o) rfl 2 (by decide) mw_157 rfl (by decide +kernel) (by exact Nat.le_of_ble_eq_true rfl) rfl dX4_solveSize_104 (fun H locs hI => ?_)
    refine lv_iconst (v := 0) hx hb dX4_solveSize_107 (by decide) ?_
    refine lv_istore (lv' := [(8, .int 0), (7, .int (100 - (r * (X 6 2)))), (6, .int (X 10 2)), (4, .long (ent X Y 2)), (0, .ref (o + 282)), (1, .ref (o + 2)), (2, .int 2), (3, .int r)]) hx hb dX4_solveSize_108 hl (by decide) rfl (fun ls hl => ?_)
    refine lv_iload hx hb dX4_solveSize_110 (lv_at hl 0 rfl) ?_
    refine lv_iload_n hx hb dX4_solveSize_112 rfl (lv_at hl 6 rfl) ?_
    refine lv_icmp_ge (tgt := 135) hx hb dX4_solveSize_113 (by decide) (fun q => absurd q (by decide)) (fun _ => ?_)
    refine lv_aload_n hx hb dX4_solveSize_116 rfl (lv_at hl 4 rfl) ?_
    refine x_get (k := 282) hE hK hI (by decide) inG4 (e_282 G o _ _) rfl 0 (by decide) mw_154 rfl dX4_solveSize_117 ?_
    refine lv_iload hx hb dX4_solveSize_120 (lv_at hl 0 rfl) ?_
    refine lv_dup2_11 hx hb dX4_solveSize_122 rfl rfl ?_
    refine x_lald (k := 283) (j := 0) hE hK hI (by decide) (e_283 G o) (by decide) (by decide) rfl dX4_solveSize_123 ?_
    refine lv_topl (fun z3 ez3 => ?_)
    obtain rfl : Y 283 0 = z3 := (ez3.trans ((sy_o (by decide)).trans ((sy_o (by decide))))).symm
    refine lv_iload hx hb dX4_solveSize_124 (lv_at hl 1 rfl) ?_
    refine lv_i2l hx hb dX4_solveSize_126 rfl ?_
    refine lv_lmul hx hb dX4_solveSize_127 ?_
    refine x_last (k := 283) (j := 0) hE hK hI (by decide) (e_283 G o) (by decide) (by decide) rfl dX4_solveSize_128 (fun H locs hI => ?_)
    refine lv_iinc (v := 1) (lv' := [(8, .int 1), (7, .int (100 - (r * (X 6 2)))), (6, .int (X 10 2)), (4, .long (ent X Y 2)), (0, .ref (o + 282)), (1, .ref (o + 2)), (2, .int 2), (3, .int r)]) hx hb dX4_solveSize_129 hl (k := 0) rfl (by decide) (by decide) rfl (fun ls hl => ?_)
    refine lv_goto (tgt := 110) hx hb dX4_solveSize_132 (by decide) ?_
    refine lv_iload hx hb dX4_solveSize_110 (lv_at hl 0 rfl) ?_
    refine lv_iload_n hx hb dX4_solveSize_112 rfl (lv_at hl 6 rfl) ?_
    refine lv_icmp_ge (tgt := 135) hx hb dX4_solveSize_113 (by decide) (fun q => absurd q (by decide)) (fun _ => ?_)
    refine lv_aload_n hx hb dX4_solveSize_116 rfl (lv_at hl 4 rfl) ?_
    refine x_get (k := 282) hE hK hI (by decide) inG4 (e_282 G o _ _) rfl 0 (by decide) mw_154 rfl dX4_solveSize_117 ?_
    refine lv_iload hx hb dX4_solveSize_120 (lv_at hl 0 rfl) ?_
    refine lv_dup2_11 hx hb dX4_solveSize_122 rfl rfl ?_
    refine x_lald (k := 283) (j := 1) hE hK hI (by decide) (e_283 G o) (by decide) (by decide) rfl dX4_solveSize_123 ?_
    refine lv_topl (fun z4 ez4 => ?_)
    obtain rfl : Y 283 1 = z4 := (ez4.trans ((sy_o (by decide)).trans ((sy_o (by decide)).trans ((sy_o (by decide)))))).symm
    refine lv_iload hx hb dX4_solveSize_124 (lv_at hl 1 rfl) ?_
    refine lv_i2l hx hb dX4_solveSize_126 rfl ?_
    refine lv_lmul hx hb dX4_solveSize_127 ?_
    refine x_last (k := 283) (j := 1) hE hK hI (by decide) (e_283 G o) (by decide) (by decide) rfl dX4_solveSize_128 (fun H locs hI => ?_)
    refine lv_iinc (v := 2) (lv' := [(8, .int 2), (7, .int (100 - (r * (X 6 2)))), (6, .int (X 10 2)), (4, .long (ent X Y 2)), (0, .ref (o + 282)), (1, .ref (o + 2)), (2, .int 2), (3, .int r)]) hx hb dX4_solveSize_129 hl (k := 0) rfl (by decide) (by decide) rfl (fun ls hl => ?_)
    refine lv_goto (tgt := 110) hx hb dX4_solveSize_132 (by decide) ?_
    refine lv_iload hx hb dX4_solveSize_110 (lv_at hl 0 rfl) ?_
    refine lv_iload_n hx hb dX4_solveSize_112 rfl (lv_at hl 6 rfl) ?_
    refine lv_icmp_ge (tgt := 135) hx hb dX4_solveSize_113 (by decide) (fun _ => ?_) (fun q => absurd (by decide) q)
    exact x_vret hE hr hlocks hI rfl ((if_neg c1).symm) ((if_neg c1).symm) dX4_solveSize_135
  · refine lv_aload_n hx hb dX4_solveSize_36 rfl (lv_at hl 3 rfl) ?_
    refine x_get (k := 282) hE hK hI (by decide) inG4 (e_282 G o _ _) rfl 0 (by decide) mw_154 rfl dX4_solveSize_37 ?_
    refine lv_iload_n hx hb dX4_solveSize_40 rfl (lv_at hl 5 rfl) ?_
    refine lv_lconst (v := 0) hx hb dX4_solveSize_41 (by decide) ?_
    refine x_last (k := 283) (j := 2) hE hK hI (by decide) (e_283 G o) (by decide) (by decide) rfl dX4_solveSize_42 (fun H locs hI => ?_)
    refine lv_aload_n hx hb dX4_solveSize_43 rfl (lv_at hl 3 rfl) ?_
    refine lv_aload_n hx hb dX4_solveSize_44 rfl (lv_at hl 3 rfl) ?_
    refine x_get (k := 282) hE hK hI (by decide) inG4 (e_282 G o _ _) rfl 3 (by decide) mw_159 rfl dX4_solveSize_45 ?_
    refine lv_if_eq (tgt := 67) hx hb dX4_solveSize_48 (by decide) (fun c5 => ?_) (fun c5 => ?_)
    · refine lv_iconst (v := 0) hx hb dX4_solveSize_67 (by decide) ?_
      refine x_putz (k := 282) hE hK hI (by decide) inG4 tyX4 tyX4_ok nmX4 (e_282 G o) rfl 3 (by decide) mw_159 rfl (by decide +kernel) (by exact Nat.le_of_ble_eq_true rfl) (by decide) rfl dX4_solveSize_68 (fun H locs hI => ?_)
      exact x_vret hE hr hlocks hI rfl (((if_pos c1).trans (if_pos c5)).symm) ((if_pos c1).symm) dX4_solveSize_71
    · refine lv_iload hx hb dX4_solveSize_51 (lv_at hl 1 rfl) ?_
      refine lv_if_ne (tgt := 67) hx hb dX4_solveSize_53 (by decide) (fun c6 => ?_) (fun c6 => ?_)
      · refine lv_iconst (v := 0) hx hb dX4_solveSize_67 (by decide) ?_
        refine x_putz (k := 282) hE hK hI (by decide) inG4 tyX4 tyX4_ok nmX4 (e_282 G o) rfl 3 (by decide) mw_159 rfl (by decide +kernel) (by exact Nat.le_of_ble_eq_true rfl) (by decide) rfl dX4_solveSize_68 (fun H locs hI => ?_)
        exact x_vret hE hr hlocks hI rfl (((if_pos c1).trans ((if_neg c5).trans (if_neg c6))).symm) ((if_pos c1).symm) dX4_solveSize_71
      · refine lv_lload hx hb dX4_solveSize_56 (lv_at hl 2 rfl) ?_
        refine lv_lconst (v := 0) hx hb dX4_solveSize_58 (by decide) ?_
        refine W.lcmp hx hb dX4_solveSize_59 ?_
        refine lv_if_ne (tgt := 67) hx hb dX4_solveSize_60 (by decide) (fun c7 => ?_) (fun c7 => ?_)
        · have c7 := mt (lg_cmp_eq _ _).mpr c7
          refine lv_iconst (v := 0) hx hb dX4_solveSize_67 (by decide) ?_
          refine x_putz (k := 282) hE hK hI (by decide) inG4 tyX4 tyX4_ok nmX4 (e_282 G o) rfl 3 (by decide) mw_159 rfl (by decide +kernel) (by exact Nat.le_of_ble_eq_true rfl) (by decide) rfl dX4_solveSize_68 (fun H locs hI => ?_)
          exact x_vret hE hr hlocks hI rfl (((if_pos c1).trans ((if_neg c5).trans ((if_pos c6).trans (if_neg c7)))).symm) ((if_pos c1).symm) dX4_solveSize_71
        · have c7 := (lg_cmp_eq _ _).mp c7
          refine lv_iconst (v := 1) hx hb dX4_solveSize_63 (by decide) ?_
          refine lv_goto (tgt := 68) hx hb dX4_solveSize_64 (by decide) ?_
          refine x_putz (k := 282) hE hK hI (by decide) inG4 tyX4 tyX4_ok nmX4 (e_282 G o) rfl 3 (by decide) mw_159 rfl (by decide +kernel) (by exact Nat.le_of_ble_eq_true rfl) (by decide) rfl dX4_solveSize_68 (fun H locs hI => ?_)
          exact x_vret hE hr hlocks hI rfl (((if_pos c1).trans ((if_neg c5).trans ((if_pos c6).trans (if_pos c7)))).symm) ((if_pos c1).symm) dX4_solveSize_71
theorem ss2X_o {X : SX} {Y : SY} {r : Int32} {k i : Nat} (h : k ≠ 282) : ss2X X Y r k i = X k i := by
  unfold ss2X
  repeat' split
  all_goals first | rfl | exact sx_o (fun q => h q.1)
def ss3X (X : SX) (Y : SY) (r : Int32) : SX := if 100 - (r * (X 7 3)) = 0 then (if X 282 3 = 0 then (sx X 282 3 0) else (if X 10 3 = 0 then (if ent X Y 3 = 0 then (sx X 282 3 1) else (sx X 282 3 0)) else (sx X 282 3 0))) else X
def ss3Y (X : SX) (Y : SY) (r : Int32) : SY := if 100 - (r * (X 7 3)) = 0 then (sy Y 283 3 0) else (sy (sy (sy (sy (sy Y 283 3 ((((100 * (X 10 3)).toInt64) * (Y 282 2)) + (r.toInt64 * (ent X Y 3)))) 282 2 ((Y 282 2) * ((100 - (r * (X 7 3))).toInt64))) 283 0 ((Y 283 0) * ((100 - (r * (X 7 3))).toInt64))) 283 1 ((Y 283 1) * ((100 - (r * (X 7 3))).toInt64))) 283 2 ((Y 283 2) * ((100 - (r * (X 7 3))).toInt64)))
set_option maxRecDepth 100000 in
set_option maxHeartbeats 4000000 in
theorem c_X4_solveSize_3 (l : Launch) (G : GG) (o : Nat) (X : SX) (Y : SY) (r : Int32) : Ct l yX4_solveSize cX4_solveSize 9 none 1 25 G o [.ref (o + 282), .ref (o + 2), .int 3, .int r] X Y none (ss3X X Y r) (ss3Y X Y r) := by
  refine Ct.mk (by decide +kernel) (Nat.le_of_ble_eq_true rfl) rfl ?_
  intro p9 e9 s9 m9 args9 below9 meth9 c9 hE hr hlocks hK hI ls hl
  have hx := hE.1
  have hb := hE.2.1
  have hl : lv_has ls 9 [(0, .ref (o + 282)), (1, .ref (o + 2)), (2, .int 3), (3, .int r)] := hl
  refine lv_aload_n hx hb dX4_solveSize_0 rfl (lv_at hl 0 rfl) ?_
  refine lv_aload_n hx hb dX4_solveSize_1 rfl (lv_at hl 1 rfl) ?_
  refine lv_iload_n hx hb dX4_solveSize_2 rfl (lv_at hl 2 rfl) ?_
  refine x_callVl (k := 282) hE hK hI (c_X4_brokenInto_3 l G o _ _  ) mf_X4_brokenInto mw_239 (by decide) ((e_282 G o) _ _) rfl rfl hl.1 rfl (Nat.le_of_ble_eq_true rfl) ⟨(Nat.le_of_ble_eq_true rfl), (Nat.le_of_ble_eq_true rfl)⟩ ⟨Nat.zero_le _, Nat.zero_le _⟩ dX4_solveSize_3 (fun H locs hI => ?_)
  refine lv_lstore (lv' := [(4, .long (ent X Y 3)), (0, .ref (o + 282)), (1, .ref (o + 2)), (2, .int 3), (3, .int r)]) hx hb dX4_solveSize_6 hl (by decide) rfl (fun ls hl => ?_)
  refine lv_aload_n hx hb dX4_solveSize_8 rfl (lv_at hl 2 rfl) ?_
  refine x_get (k := 2) hE hK hI (by decide) inG2 (e_2 G o _ _) rfl 3 (by decide) mw_43 rfl dX4_solveSize_9 ?_
  refine lv_iload_n hx hb dX4_solveSize_12 rfl (lv_at hl 3 rfl) ?_
  refine x_iald (k := 10) (j := 3) hE hK hI (by decide) (e_10 G o) (by decide) (by decide) rfl dX4_solveSize_13 ?_
  refine lv_istore (lv' := [(6, .int (X 10 3)), (4, .long (ent X Y 3)), (0, .ref (o + 282)), (1, .ref (o + 2)), (2, .int 3), (3, .int r)]) hx hb dX4_solveSize_14 hl (by decide) rfl (fun ls hl => ?_)
  refine lv_bipush (v := 100) hx hb dX4_solveSize_16 (by decide) ?_
  refine lv_iload_n hx hb dX4_solveSize_18 rfl (lv_at hl 5 rfl) ?_
  refine lv_aload_n hx hb dX4_solveSize_19 rfl (lv_at hl 3 rfl) ?_
  refine x_get (k := 2) hE hK hI (by decide) inG2 (e_2 G o _ _) rfl 0 (by decide) mw_34 rfl dX4_solveSize_20 ?_
  refine lv_iload_n hx hb dX4_solveSize_23 rfl (lv_at hl 4 rfl) ?_
  refine x_aald (k := 3) (j := 3) (t0 := 5) (q := o + 7) hE hK hI (by decide) (e_3 G o) rfl rfl (by decide) (by decide) rfl rfl dX4_solveSize_24 ?_
  refine lv_iload_n hx hb dX4_solveSize_25 rfl (lv_at hl 4 rfl) ?_
  refine x_iald (k := 7) (j := 3) hE hK hI (by decide) (e_7 G o) (by decide) (by decide) rfl dX4_solveSize_26 ?_
  refine lv_imul hx hb dX4_solveSize_27 ?_
  refine lv_isub hx hb dX4_solveSize_28 ?_
  refine lv_istore (lv' := [(7, .int (100 - (r * (X 7 3)))), (6, .int (X 10 3)), (4, .long (ent X Y 3)), (0, .ref (o + 282)), (1, .ref (o + 2)), (2, .int 3), (3, .int r)]) hx hb dX4_solveSize_29 hl (by decide) rfl (fun ls hl => ?_)
  refine lv_iload hx hb dX4_solveSize_31 (lv_at hl 0 rfl) ?_
  refine lv_if_ne (tgt := 72) hx hb dX4_solveSize_33 (by decide) (fun c1 => ?_) (fun c1 => ?_)
  · refine lv_aload_n hx hb dX4_solveSize_72 rfl (lv_at hl 3 rfl) ?_
    refine x_get (k := 282) hE hK hI (by decide) inG4 (e_282 G o _ _) rfl 0 (by decide) mw_154 rfl dX4_solveSize_73 ?_
    refine lv_iload_n hx hb dX4_solveSize_76 rfl (lv_at hl 5 rfl) ?_
    refine lv_bipush (v := 100) hx hb dX4_solveSize_77 (by decide) ?_
    refine lv_iload hx hb dX4_solveSize_79 (lv_at hl 1 rfl) ?_
    refine lv_imul hx hb dX4_solveSize_81 ?_
    refine lv_i2l hx hb dX4_solveSize_82 rfl ?_
    refine lv_aload_n hx hb dX4_solveSize_83 rfl (lv_at hl 3 rfl) ?_
    refine x_get (k := 282) hE hK hI (by decide) inG4 (e_282 G o _ _) rfl 2 (by decide) mw_157 rfl dX4_solveSize_84 ?_
    refine lv_lmul hx hb dX4_solveSize_87 ?_
    refine lv_iload_n hx hb dX4_solveSize_88 rfl (lv_at hl 6 rfl) ?_
    refine lv_i2l hx hb dX4_solveSize_89 rfl ?_
    refine lv_lload hx hb dX4_solveSize_90 (lv_at hl 2 rfl) ?_
    refine lv_lmul hx hb dX4_solveSize_92 ?_
    refine lv_ladd hx hb dX4_solveSize_93 ?_
    refine x_last (k := 283) (j := 3) hE hK hI (by decide) (e_283 G o) (by decide) (by decide) rfl dX4_solveSize_94 (fun H locs hI => ?_)
    refine lv_aload_n hx hb dX4_solveSize_95 rfl (lv_at hl 3 rfl) ?_
    refine lv_dup hx hb dX4_solveSize_96 rfl ?_
    refine x_get (k := 282) hE hK hI (by decide) inG4 (e_282 G o _ _) rfl 2 (by decide) mw_157 rfl dX4_solveSize_97 ?_
    refine lv_topl (fun z2 ez2 => ?_)
    obtain rfl : Y 282 2 = z2 := (ez2.trans ((sy_o (by decide)))).symm
    refine lv_iload hx hb dX4_solveSize_100 (lv_at hl 0 rfl) ?_
    refine lv_i2l hx hb dX4_solveSize_102 rfl ?_
    refine lv_lmul hx hb dX4_solveSize_103 ?_
    refine x_putl (k := 282) hE hK hI (by decide) inG4 tyX4 tyX4_ok nmX4 (e_282 G o) rfl 2 (by decide) mw_157 rfl (by decide +kernel) (by exact Nat.le_of_ble_eq_true rfl) rfl dX4_solveSize_104 (fun H locs hI => ?_)
    refine lv_iconst (v := 0) hx hb dX4_solveSize_107 (by decide) ?_
    refine lv_istore (lv' := [(8, .int 0), (7, .int (100 - (r * (X 7 3)))), (6, .int (X 10 3)), (4, .long (ent X Y 3)), (0, .ref (o + 282)), (1, .ref (o + 2)), (2, .int 3), (3, .int r)]) hx hb dX4_solveSize_108 hl (by decide) rfl (fun ls hl => ?_)
    refine lv_iload hx hb dX4_solveSize_110 (lv_at hl 0 rfl) ?_
    refine lv_iload_n hx hb dX4_solveSize_112 rfl (lv_at hl 6 rfl) ?_
    refine lv_icmp_ge (tgt := 135) hx hb dX4_solveSize_113 (by decide) (fun q => absurd q (by decide)) (fun _ => ?_)
    refine lv_aload_n hx hb dX4_solveSize_116 rfl (lv_at hl 4 rfl) ?_
    refine x_get (k := 282) hE hK hI (by decide) inG4 (e_282 G o _ _) rfl 0 (by decide) mw_154 rfl dX4_solveSize_117 ?_
    refine lv_iload hx hb dX4_solveSize_120 (lv_at hl 0 rfl) ?_
    refine lv_dup2_11 hx hb dX4_solveSize_122 rfl rfl ?_
    refine x_lald (k := 283) (j := 0) hE hK hI (by decide) (e_283 G o) (by decide) (by decide) rfl dX4_solveSize_123 ?_
    refine lv_topl (fun z3 ez3 => ?_)
    obtain rfl : Y 283 0 = z3 := (ez3.trans ((sy_o (by decide)).trans ((sy_o (by decide))))).symm
    refine lv_iload hx hb dX4_solveSize_124 (lv_at hl 1 rfl) ?_
    refine lv_i2l hx hb dX4_solveSize_126 rfl ?_
    refine lv_lmul hx hb dX4_solveSize_127 ?_
    refine x_last (k := 283) (j := 0) hE hK hI (by decide) (e_283 G o) (by decide) (by decide) rfl dX4_solveSize_128 (fun H locs hI => ?_)
    refine lv_iinc (v := 1) (lv' := [(8, .int 1), (7, .int (100 - (r * (X 7 3)))), (6, .int (X 10 3)), (4, .long (ent X Y 3)), (0, .ref (o + 282)), (1, .ref (o + 2)), (2, .int 3), (3, .int r)]) hx hb dX4_solveSize_129 hl (k := 0) rfl (by decide) (by decide) rfl (fun ls hl => ?_)
    refine lv_goto (tgt := 110) hx hb dX4_solveSize_132 (by decide) ?_
    refine lv_iload hx hb dX4_solveSize_110 (lv_at hl 0 rfl) ?_
    refine lv_iload_n hx hb dX4_solveSize_112 rfl (lv_at hl 6 rfl) ?_
    refine lv_icmp_ge (tgt := 135) hx hb dX4_solveSize_113 (by decide) (fun q => absurd q (by decide)) (fun _ => ?_)
    refine lv_aload_n hx hb dX4_solveSize_116 rfl (lv_at hl 4 rfl) ?_
    refine x_get (k := 282) hE hK hI (by decide) inG4 (e_282 G o _ _) rfl 0 (by decide) mw_154 rfl dX4_solveSize_117 ?_
    refine lv_iload hx hb dX4_solveSize_120 (lv_at hl 0 rfl) ?_
    refine lv_dup2_11 hx hb dX4_solveSize_122 rfl rfl ?_
    refine x_lald (k := 283) (j := 1) hE hK hI (by decide) (e_283 G o) (by decide) (by decide) rfl dX4_solveSize_123 ?_
    refine lv_topl (fun z4 ez4 => ?_)
    obtain rfl : Y 283 1 = z4 := (ez4.trans ((sy_o (by decide)).trans ((sy_o (by decide)).trans ((sy_o (by decide)))))).symm
    refine lv_iload hx hb dX4_solveSize_124 (lv_at hl 1 rfl) ?_
    refine lv_i2l hx hb dX4_solveSize_126 rfl ?_
    refine lv_lmul hx hb dX4_solveSize_127 ?_
    refine x_last (k := 283) (j := 1) hE hK hI (by decide) (e_283 G o) (by decide) (by decide) rfl dX4_solveSize_128 (fun H locs hI => ?_)
    refine lv_iinc (v := 2) (lv' := [(8, .int 2), (7, .int (100 - (r * (X 7 3)))), (6, .int (X 10 3)), (4, .long (ent X Y 3)), (0, .ref (o + 282)), (1, .ref (o + 2)), (2, .int 3), (3, .int r)]) hx hb dX4_solveSize_129 hl (k := 0) rfl (by decide) (by decide) rfl (fun ls hl => ?_)
    refine lv_goto (tgt := 110) hx hb dX4_solveSize_132 (by decide) ?_
    refine lv_iload hx hb dX4_solveSize_110 (lv_at hl 0 rfl) ?_
    refine lv_iload_n hx hb dX4_solveSize_112 rfl (lv_at hl 6 rfl) ?_
    refine lv_icmp_ge (tgt := 135) hx hb dX4_solveSize_113 (by decide) (fun q => absurd q (by decide)) (fun _ => ?_)
    refine lv_aload_n hx hb dX4_solveSize_116 rfl (lv_at hl 4 rfl) ?_
    refine x_get (k := 282) hE hK hI (by decide) inG4 (e_282 G o _ _) rfl 0 (by decide) mw_154 rfl dX4_solveSize_117 ?_
    refine lv_iload hx hb dX4_solveSize_120 (lv_at hl 0 rfl) ?_
    refine lv_dup2_11 hx hb dX4_solveSize_122 rfl rfl ?_
    refine x_lald (k := 283) (j := 2) hE hK hI (by decide) (e_283 G o) (by decide) (by decide) rfl dX4_solveSize_123 ?_
    refine lv_topl (fun z5 ez5 => ?_)
    obtain rfl : Y 283 2 = z5 := (ez5.trans ((sy_o (by decide)).trans ((sy_o (by decide)).trans ((sy_o (by decide)).trans ((sy_o (by decide))))))).symm
    refine lv_iload hx hb dX4_solveSize_124 (lv_at hl 1 rfl) ?_
    refine lv_i2l hx hb dX4_solveSize_126 rfl ?_
    refine lv_lmul hx hb dX4_solveSize_127 ?_
    refine x_last (k := 283) (j := 2) hE hK hI (by decide) (e_283 G o) (by decide) (by decide) rfl dX4_solveSize_128 (fun H locs hI => ?_)
    refine lv_iinc (v := 3) (lv' := [(8, .int 3), (7, .int (100 - (r * (X 7 3)))), (6, .int (X 10 3)), (4, .long (ent X Y 3)), (0, .ref (o + 282)), (1, .ref (o + 2)), (2, .int 3), (3, .int r)]) hx hb dX4_solveSize_129 hl (k := 0) rfl (by decide) (by decide) rfl (fun ls hl => ?_)
    refine lv_goto (tgt := 110) hx hb dX4_solveSize_132 (by decide) ?_
    refine lv_iload hx hb dX4_solveSize_110 (lv_at hl 0 rfl) ?_
    refine lv_iload_n hx hb dX4_solveSize_112 rfl (lv_at hl 6 rfl) ?_
    refine lv_icmp_ge (tgt := 135) hx hb dX4_solveSize_113 (by decide) (fun _ => ?_) (fun q => absurd (by decide) q)
    exact x_vret hE hr hlocks hI rfl ((if_neg c1).symm) ((if_neg c1).symm) dX4_solveSize_135
  · refine lv_aload_n hx hb dX4_solveSize_36 rfl (lv_at hl 3 rfl) ?_
    refine x_get (k := 282) hE hK hI (by decide) inG4 (e_282 G o _ _) rfl 0 (by decide) mw_154 rfl dX4_solveSize_37 ?_
    refine lv_iload_n hx hb dX4_solveSize_40 rfl (lv_at hl 5 rfl) ?_
    refine lv_lconst (v := 0) hx hb dX4_solveSize_41 (by decide) ?_
    refine x_last (k := 283) (j := 3) hE hK hI (by decide) (e_283 G o) (by decide) (by decide) rfl dX4_solveSize_42 (fun H locs hI => ?_)
    refine lv_aload_n hx hb dX4_solveSize_43 rfl (lv_at hl 3 rfl) ?_
    refine lv_aload_n hx hb dX4_solveSize_44 rfl (lv_at hl 3 rfl) ?_
    refine x_get (k := 282) hE hK hI (by decide) inG4 (e_282 G o _ _) rfl 3 (by decide) mw_159 rfl dX4_solveSize_45 ?_
    refine lv_if_eq (tgt := 67) hx hb dX4_solveSize_48 (by decide) (fun c6 => ?_) (fun c6 => ?_)
    · refine lv_iconst (v := 0) hx hb dX4_solveSize_67 (by decide) ?_
      refine x_putz (k := 282) hE hK hI (by decide) inG4 tyX4 tyX4_ok nmX4 (e_282 G o) rfl 3 (by decide) mw_159 rfl (by decide +kernel) (by exact Nat.le_of_ble_eq_true rfl) (by decide) rfl dX4_solveSize_68 (fun H locs hI => ?_)
      exact x_vret hE hr hlocks hI rfl (((if_pos c1).trans (if_pos c6)).symm) ((if_pos c1).symm) dX4_solveSize_71
    · refine lv_iload hx hb dX4_solveSize_51 (lv_at hl 1 rfl) ?_
      refine lv_if_ne (tgt := 67) hx hb dX4_solveSize_53 (by decide) (fun c7 => ?_) (fun c7 => ?_)
      · refine lv_iconst (v := 0) hx hb dX4_solveSize_67 (by decide) ?_
        refine x_putz (k := 282) hE hK hI (by decide) inG4 tyX4 tyX4_ok nmX4 (e_282 G o) rfl 3 (by decide) mw_159 rfl (by decide +kernel) (by exact Nat.le_of_ble_eq_true rfl) (by decide) rfl dX4_solveSize_68 (fun H locs hI => ?_)
        exact x_vret hE hr hlocks hI rfl (((if_pos c1).trans ((if_neg c6).trans (if_neg c7))).symm) ((if_pos c1).symm) dX4_solveSize_71
      · refine lv_lload hx hb dX4_solveSize_56 (lv_at hl 2 rfl) ?_
        refine lv_lconst (v := 0) hx hb dX4_solveSize_58 (by decide) ?_
        refine W.lcmp hx hb dX4_solveSize_59 ?_
        refine lv_if_ne (tgt := 67) hx hb dX4_solveSize_60 (by decide) (fun c8 => ?_) (fun c8 => ?_)
        · have c8 := mt (lg_cmp_eq _ _).mpr c8
          refine lv_iconst (v := 0) hx hb dX4_solveSize_67 (by decide) ?_
          refine x_putz (k := 282) hE hK hI (by decide) inG4 tyX4 tyX4_ok nmX4 (e_282 G o) rfl 3 (by decide) mw_159 rfl (by decide +kernel) (by exact Nat.le_of_ble_eq_true rfl) (by decide) rfl dX4_solveSize_68 (fun H locs hI => ?_)
          exact x_vret hE hr hlocks hI rfl (((if_pos c1).trans ((if_neg c6).trans ((if_pos c7).trans (if_neg c8)))).symm) ((if_pos c1).symm) dX4_solveSize_71
        · have c8 := (lg_cmp_eq _ _).mp c8
          refine lv_iconst (v := 1) hx hb dX4_solveSize_63 (by decide) ?_
          refine lv_goto (tgt := 68) hx hb dX4_solveSize_64 (by decide) ?_
          refine x_putz (k := 282) hE hK hI (by decide) inG4 tyX4 tyX4_ok nmX4 (e_282 G o) rfl 3 (by decide) mw_159 rfl (by decide +kernel) (by exact Nat.le_of_ble_eq_true rfl) (by decide) rfl dX4_solveSize_68 (fun H locs hI => ?_)
          exact x_vret hE hr hlocks hI rfl (((if_pos c1).trans ((if_neg c6).trans ((if_pos c7).trans (if_pos c8)))).symm) ((if_pos c1).symm) dX4_solveSize_71
theorem ss3X_o {X : SX} {Y : SY} {r : Int32} {k i : Nat} (h : k ≠ 282) : ss3X X Y r k i = X k i := by
  unfold ss3X
  repeat' split
  all_goals first | rfl | exact sx_o (fun q => h q.1)
def solX (X : SX) (Y : SY) (r0 : Int32) (r1 : Int32) (r2 : Int32) (r3 : Int32) : SX := ss3X (ss2X (ss1X (ss0X (sx X 282 3 1) (sy Y 282 2 1) r0) (ss0Y (sx X 282 3 1) (sy Y 282 2 1) r0) r1) (ss1Y (ss0X (sx X 282 3 1) (sy Y 282 2 1) r0) (ss0Y (sx X 282 3 1) (sy Y 282 2 1) r0) r1) r2) (ss2Y (ss1X (ss0X (sx X 282 3 1) (sy Y 282 2 1) r0) (ss0Y (sx X 282 3 1) (sy Y 282 2 1) r0) r1) (ss1Y (ss0X (sx X 282 3 1) (sy Y 282 2 1) r0) (ss0Y (sx X 282 3 1) (sy Y 282 2 1) r0) r1) r2) r3
def solY (X : SX) (Y : SY) (r0 : Int32) (r1 : Int32) (r2 : Int32) (r3 : Int32) : SY := ss3Y (ss2X (ss1X (ss0X (sx X 282 3 1) (sy Y 282 2 1) r0) (ss0Y (sx X 282 3 1) (sy Y 282 2 1) r0) r1) (ss1Y (ss0X (sx X 282 3 1) (sy Y 282 2 1) r0) (ss0Y (sx X 282 3 1) (sy Y 282 2 1) r0) r1) r2) (ss2Y (ss1X (ss0X (sx X 282 3 1) (sy Y 282 2 1) r0) (ss0Y (sx X 282 3 1) (sy Y 282 2 1) r0) r1) (ss1Y (ss0X (sx X 282 3 1) (sy Y 282 2 1) r0) (ss0Y (sx X 282 3 1) (sy Y 282 2 1) r0) r1) r2) r3
set_option maxRecDepth 100000 in
set_option maxHeartbeats 4000000 in
theorem c_X4_solve_8 (l : Launch) (G : GG) (o : Nat) (X : SX) (Y : SY) (r0 : Int32) (r1 : Int32) (r2 : Int32) (r3 : Int32) (hr0 : X 8 0 = r0) (hr1 : X 8 1 = r1) (hr2 : X 8 2 = r2) (hr3 : X 8 3 = r3) : Ct l yX4_solve cX4_solve 4 none 2 53 G o [.ref (o + 282), .ref (o + 2), .ref (o + 8)] X Y none (solX X Y r0 r1 r2 r3) (solY X Y r0 r1 r2 r3) := by
  refine Ct.mk (by decide +kernel) (Nat.le_of_ble_eq_true rfl) rfl ?_
  intro p9 e9 s9 m9 args9 below9 meth9 c9 hE hr hlocks hK hI ls hl
  have hx := hE.1
  have hb := hE.2.1
  have hl : lv_has ls 4 [(0, .ref (o + 282)), (1, .ref (o + 2)), (2, .ref (o + 8))] := hl
  refine lv_aload_n hx hb dX4_solve_0 rfl (lv_at hl 0 rfl) ?_
  refine lv_lconst (v := 1) hx hb dX4_solve_1 (by decide) ?_
  refine x_putl (k := 282) hE hK hI (by decide) inG4 tyX4 tyX4_ok nmX4 (e_282 G o) rfl 2 (by decide) mw_157 rfl (by decide +kernel) (by exact Nat.le_of_ble_eq_true rfl) rfl dX4_solve_2 (fun H locs hI => ?_)
  refine lv_aload_n hx hb dX4_solve_5 rfl (lv_at hl 0 rfl) ?_
  refine lv_iconst (v := 1) hx hb dX4_solve_6 (by decide) ?_
  refine x_putz (k := 282) hE hK hI (by decide) inG4 tyX4 tyX4_ok nmX4 (e_282 G o) rfl 3 (by decide) mw_159 rfl (by decide +kernel) (by exact Nat.le_of_ble_eq_true rfl) (by decide) rfl dX4_solve_7 (fun H locs hI => ?_)
  refine lv_iconst (v := 0) hx hb dX4_solve_10 (by decide) ?_
  refine lv_istore_n (lv' := [(3, .int 0), (0, .ref (o + 282)), (1, .ref (o + 2)), (2, .ref (o + 8))]) hx hb dX4_solve_11 rfl hl (by decide) rfl (fun ls hl => ?_)
  refine lv_iload_n hx hb dX4_solve_12 rfl (lv_at hl 0 rfl) ?_
  refine lv_iconst (v := 4) hx hb dX4_solve_13 (by decide) ?_
  refine lv_icmp_ge (tgt := 32) hx hb dX4_solve_14 (by decide) (fun q => absurd q (by decide)) (fun _ => ?_)
  refine lv_aload_n hx hb dX4_solve_17 rfl (lv_at hl 1 rfl) ?_
  refine lv_aload_n hx hb dX4_solve_18 rfl (lv_at hl 2 rfl) ?_
  refine lv_iload_n hx hb dX4_solve_19 rfl (lv_at hl 0 rfl) ?_
  refine lv_aload_n hx hb dX4_solve_20 rfl (lv_at hl 3 rfl) ?_
  refine lv_iload_n hx hb dX4_solve_21 rfl (lv_at hl 0 rfl) ?_
  refine x_iald (k := 8) (j := 0) hE hK hI (by decide) (e_8 G o) (by decide) (by decide) rfl dX4_solve_22 ?_
  refine lv_topi (fun z1 ez1 => ?_)
  obtain rfl : r0 = z1 := (ez1.trans ((sx_o (by decide)).trans (hr0))).symm
  refine x_callVv (k := 282) hE hK hI (c_X4_solveSize_0 l G o _ _ r0 ) mf_X4_solveSize mw_235 (by decide) ((e_282 G o) _ _) rfl rfl hl.1 rfl (Nat.le_of_ble_eq_true rfl) ⟨(Nat.le_of_ble_eq_true rfl), (Nat.le_of_ble_eq_true rfl)⟩ ⟨Nat.zero_le _, Nat.zero_le _⟩ dX4_solve_23 (fun H locs hI => ?_)
  refine lv_iinc (v := 1) (lv' := [(3, .int 1), (0, .ref (o + 282)), (1, .ref (o + 2)), (2, .ref (o + 8))]) hx hb dX4_solve_26 hl (k := 0) rfl (by decide) (by decide) rfl (fun ls hl => ?_)
  refine lv_goto (tgt := 12) hx hb dX4_solve_29 (by decide) ?_
  refine lv_iload_n hx hb dX4_solve_12 rfl (lv_at hl 0 rfl) ?_
  refine lv_iconst (v := 4) hx hb dX4_solve_13 (by decide) ?_
  refine lv_icmp_ge (tgt := 32) hx hb dX4_solve_14 (by decide) (fun q => absurd q (by decide)) (fun _ => ?_)
  refine lv_aload_n hx hb dX4_solve_17 rfl (lv_at hl 1 rfl) ?_
  refine lv_aload_n hx hb dX4_solve_18 rfl (lv_at hl 2 rfl) ?_
  refine lv_iload_n hx hb dX4_solve_19 rfl (lv_at hl 0 rfl) ?_
  refine lv_aload_n hx hb dX4_solve_20 rfl (lv_at hl 3 rfl) ?_
  refine lv_iload_n hx hb dX4_solve_21 rfl (lv_at hl 0 rfl) ?_
  refine x_iald (k := 8) (j := 1) hE hK hI (by decide) (e_8 G o) (by decide) (by decide) rfl dX4_solve_22 ?_
  refine lv_topi (fun z2 ez2 => ?_)
  obtain rfl : r1 = z2 := (ez2.trans (((ss0X_o (by decide)).trans ((sx_o (by decide)).trans hr1)))).symm
  refine x_callVv (k := 282) hE hK hI (c_X4_solveSize_1 l G o _ _ r1 ) mf_X4_solveSize mw_235 (by decide) ((e_282 G o) _ _) rfl rfl hl.1 rfl (Nat.le_of_ble_eq_true rfl) ⟨(Nat.le_of_ble_eq_true rfl), (Nat.le_of_ble_eq_true rfl)⟩ ⟨Nat.zero_le _, Nat.zero_le _⟩ dX4_solve_23 (fun H locs hI => ?_)
  refine lv_iinc (v := 2) (lv' := [(3, .int 2), (0, .ref (o + 282)), (1, .ref (o + 2)), (2, .ref (o + 8))]) hx hb dX4_solve_26 hl (k := 0) rfl (by decide) (by decide) rfl (fun ls hl => ?_)
  refine lv_goto (tgt := 12) hx hb dX4_solve_29 (by decide) ?_
  refine lv_iload_n hx hb dX4_solve_12 rfl (lv_at hl 0 rfl) ?_
  refine lv_iconst (v := 4) hx hb dX4_solve_13 (by decide) ?_
  refine lv_icmp_ge (tgt := 32) hx hb dX4_solve_14 (by decide) (fun q => absurd q (by decide)) (fun _ => ?_)
  refine lv_aload_n hx hb dX4_solve_17 rfl (lv_at hl 1 rfl) ?_
  refine lv_aload_n hx hb dX4_solve_18 rfl (lv_at hl 2 rfl) ?_
  refine lv_iload_n hx hb dX4_solve_19 rfl (lv_at hl 0 rfl) ?_
  refine lv_aload_n hx hb dX4_solve_20 rfl (lv_at hl 3 rfl) ?_
  refine lv_iload_n hx hb dX4_solve_21 rfl (lv_at hl 0 rfl) ?_
  refine x_iald (k := 8) (j := 2) hE hK hI (by decide) (e_8 G o) (by decide) (by decide) rfl dX4_solve_22 ?_
  refine lv_topi (fun z3 ez3 => ?_)
  obtain rfl : r2 = z3 := (ez3.trans (((ss1X_o (by decide)).trans ((ss0X_o (by decide)).trans ((sx_o (by decide)).trans hr2))))).symm
  refine x_callVv (k := 282) hE hK hI (c_X4_solveSize_2 l G o _ _ r2 ) mf_X4_solveSize mw_235 (by decide) ((e_282 G o) _ _) rfl rfl hl.1 rfl (Nat.le_of_ble_eq_true rfl) ⟨(Nat.le_of_ble_eq_true rfl), (Nat.le_of_ble_eq_true rfl)⟩ ⟨Nat.zero_le _, Nat.zero_le _⟩ dX4_solve_23 (fun H locs hI => ?_)
  refine lv_iinc (v := 3) (lv' := [(3, .int 3), (0, .ref (o + 282)), (1, .ref (o + 2)), (2, .ref (o + 8))]) hx hb dX4_solve_26 hl (k := 0) rfl (by decide) (by decide) rfl (fun ls hl => ?_)
  refine lv_goto (tgt := 12) hx hb dX4_solve_29 (by decide) ?_
  refine lv_iload_n hx hb dX4_solve_12 rfl (lv_at hl 0 rfl) ?_
  refine lv_iconst (v := 4) hx hb dX4_solve_13 (by decide) ?_
  refine lv_icmp_ge (tgt := 32) hx hb dX4_solve_14 (by decide) (fun q => absurd q (by decide)) (fun _ => ?_)
  refine lv_aload_n hx hb dX4_solve_17 rfl (lv_at hl 1 rfl) ?_
  refine lv_aload_n hx hb dX4_solve_18 rfl (lv_at hl 2 rfl) ?_
  refine lv_iload_n hx hb dX4_solve_19 rfl (lv_at hl 0 rfl) ?_
  refine lv_aload_n hx hb dX4_solve_20 rfl (lv_at hl 3 rfl) ?_
  refine lv_iload_n hx hb dX4_solve_21 rfl (lv_at hl 0 rfl) ?_
  refine x_iald (k := 8) (j := 3) hE hK hI (by decide) (e_8 G o) (by decide) (by decide) rfl dX4_solve_22 ?_
  refine lv_topi (fun z4 ez4 => ?_)
  obtain rfl : r3 = z4 := (ez4.trans (((ss2X_o (by decide)).trans ((ss1X_o (by decide)).trans ((ss0X_o (by decide)).trans ((sx_o (by decide)).trans hr3)))))).symm
  refine x_callVv (k := 282) hE hK hI (c_X4_solveSize_3 l G o _ _ r3 ) mf_X4_solveSize mw_235 (by decide) ((e_282 G o) _ _) rfl rfl hl.1 rfl (Nat.le_of_ble_eq_true rfl) ⟨(Nat.le_of_ble_eq_true rfl), (Nat.le_of_ble_eq_true rfl)⟩ ⟨Nat.zero_le _, Nat.zero_le _⟩ dX4_solve_23 (fun H locs hI => ?_)
  refine lv_iinc (v := 4) (lv' := [(3, .int 4), (0, .ref (o + 282)), (1, .ref (o + 2)), (2, .ref (o + 8))]) hx hb dX4_solve_26 hl (k := 0) rfl (by decide) (by decide) rfl (fun ls hl => ?_)
  refine lv_goto (tgt := 12) hx hb dX4_solve_29 (by decide) ?_
  refine lv_iload_n hx hb dX4_solve_12 rfl (lv_at hl 0 rfl) ?_
  refine lv_iconst (v := 4) hx hb dX4_solve_13 (by decide) ?_
  refine lv_icmp_ge (tgt := 32) hx hb dX4_solve_14 (by decide) (fun _ => ?_) (fun q => absurd (by decide) q)
  exact x_vret hE hr hlocks hI rfl rfl rfl dX4_solve_32
set_option maxRecDepth 100000 in
set_option maxHeartbeats 4000000 in
theorem c_X4_solve_284 (l : Launch) (G : GG) (o : Nat) (X : SX) (Y : SY) (r0 : Int32) (r1 : Int32) (r2 : Int32) (r3 : Int32) (hr0 : X 284 0 = r0) (hr1 : X 284 1 = r1) (hr2 : X 284 2 = r2) (hr3 : X 284 3 = r3) : Ct l yX4_solve cX4_solve 4 none 2 53 G o [.ref (o + 282), .ref (o + 2), .ref (o + 284)] X Y none (solX X Y r0 r1 r2 r3) (solY X Y r0 r1 r2 r3) := by
  refine Ct.mk (by decide +kernel) (Nat.le_of_ble_eq_true rfl) rfl ?_
  intro p9 e9 s9 m9 args9 below9 meth9 c9 hE hr hlocks hK hI ls hl
  have hx := hE.1
  have hb := hE.2.1
  have hl : lv_has ls 4 [(0, .ref (o + 282)), (1, .ref (o + 2)), (2, .ref (o + 284))] := hl
  refine lv_aload_n hx hb dX4_solve_0 rfl (lv_at hl 0 rfl) ?_
  refine lv_lconst (v := 1) hx hb dX4_solve_1 (by decide) ?_
  refine x_putl (k := 282) hE hK hI (by decide) inG4 tyX4 tyX4_ok nmX4 (e_282 G o) rfl 2 (by decide) mw_157 rfl (by decide +kernel) (by exact Nat.le_of_ble_eq_true rfl) rfl dX4_solve_2 (fun H locs hI => ?_)
  refine lv_aload_n hx hb dX4_solve_5 rfl (lv_at hl 0 rfl) ?_
  refine lv_iconst (v := 1) hx hb dX4_solve_6 (by decide) ?_
  refine x_putz (k := 282) hE hK hI (by decide) inG4 tyX4 tyX4_ok nmX4 (e_282 G o) rfl 3 (by decide) mw_159 rfl (by decide +kernel) (by exact Nat.le_of_ble_eq_true rfl) (by decide) rfl dX4_solve_7 (fun H locs hI => ?_)
  refine lv_iconst (v := 0) hx hb dX4_solve_10 (by decide) ?_
  refine lv_istore_n (lv' := [(3, .int 0), (0, .ref (o + 282)), (1, .ref (o + 2)), (2, .ref (o + 284))]) hx hb dX4_solve_11 rfl hl (by decide) rfl (fun ls hl => ?_)
  refine lv_iload_n hx hb dX4_solve_12 rfl (lv_at hl 0 rfl) ?_
  refine lv_iconst (v := 4) hx hb dX4_solve_13 (by decide) ?_
  refine lv_icmp_ge (tgt := 32) hx hb dX4_solve_14 (by decide) (fun q => absurd q (by decide)) (fun _ => ?_)
  refine lv_aload_n hx hb dX4_solve_17 rfl (lv_at hl 1 rfl) ?_
  refine lv_aload_n hx hb dX4_solve_18 rfl (lv_at hl 2 rfl) ?_
  refine lv_iload_n hx hb dX4_solve_19 rfl (lv_at hl 0 rfl) ?_
  refine lv_aload_n hx hb dX4_solve_20 rfl (lv_at hl 3 rfl) ?_
  refine lv_iload_n hx hb dX4_solve_21 rfl (lv_at hl 0 rfl) ?_
  refine x_iald (k := 284) (j := 0) hE hK hI (by decide) (e_284 G o) (by decide) (by decide) rfl dX4_solve_22 ?_
  refine lv_topi (fun z1 ez1 => ?_)
  obtain rfl : r0 = z1 := (ez1.trans ((sx_o (by decide)).trans (hr0))).symm
  refine x_callVv (k := 282) hE hK hI (c_X4_solveSize_0 l G o _ _ r0 ) mf_X4_solveSize mw_235 (by decide) ((e_282 G o) _ _) rfl rfl hl.1 rfl (Nat.le_of_ble_eq_true rfl) ⟨(Nat.le_of_ble_eq_true rfl), (Nat.le_of_ble_eq_true rfl)⟩ ⟨Nat.zero_le _, Nat.zero_le _⟩ dX4_solve_23 (fun H locs hI => ?_)
  refine lv_iinc (v := 1) (lv' := [(3, .int 1), (0, .ref (o + 282)), (1, .ref (o + 2)), (2, .ref (o + 284))]) hx hb dX4_solve_26 hl (k := 0) rfl (by decide) (by decide) rfl (fun ls hl => ?_)
  refine lv_goto (tgt := 12) hx hb dX4_solve_29 (by decide) ?_
  refine lv_iload_n hx hb dX4_solve_12 rfl (lv_at hl 0 rfl) ?_
  refine lv_iconst (v := 4) hx hb dX4_solve_13 (by decide) ?_
  refine lv_icmp_ge (tgt := 32) hx hb dX4_solve_14 (by decide) (fun q => absurd q (by decide)) (fun _ => ?_)
  refine lv_aload_n hx hb dX4_solve_17 rfl (lv_at hl 1 rfl) ?_
  refine lv_aload_n hx hb dX4_solve_18 rfl (lv_at hl 2 rfl) ?_
  refine lv_iload_n hx hb dX4_solve_19 rfl (lv_at hl 0 rfl) ?_
  refine lv_aload_n hx hb dX4_solve_20 rfl (lv_at hl 3 rfl) ?_
  refine lv_iload_n hx hb dX4_solve_21 rfl (lv_at hl 0 rfl) ?_
  refine x_iald (k := 284) (j := 1) hE hK hI (by decide) (e_284 G o) (by decide) (by decide) rfl dX4_solve_22 ?_
  refine lv_topi (fun z2 ez2 => ?_)
  obtain rfl : r1 = z2 := (ez2.trans (((ss0X_o (by decide)).trans ((sx_o (by decide)).trans hr1)))).symm
  refine x_callVv (k := 282) hE hK hI (c_X4_solveSize_1 l G o _ _ r1 ) mf_X4_solveSize mw_235 (by decide) ((e_282 G o) _ _) rfl rfl hl.1 rfl (Nat.le_of_ble_eq_true rfl) ⟨(Nat.le_of_ble_eq_true rfl), (Nat.le_of_ble_eq_true rfl)⟩ ⟨Nat.zero_le _, Nat.zero_le _⟩ dX4_solve_23 (fun H locs hI => ?_)
  refine lv_iinc (v := 2) (lv' := [(3, .int 2), (0, .ref (o + 282)), (1, .ref (o + 2)), (2, .ref (o + 284))]) hx hb dX4_solve_26 hl (k := 0) rfl (by decide) (by decide) rfl (fun ls hl => ?_)
  refine lv_goto (tgt := 12) hx hb dX4_solve_29 (by decide) ?_
  refine lv_iload_n hx hb dX4_solve_12 rfl (lv_at hl 0 rfl) ?_
  refine lv_iconst (v := 4) hx hb dX4_solve_13 (by decide) ?_
  refine lv_icmp_ge (tgt := 32) hx hb dX4_solve_14 (by decide) (fun q => absurd q (by decide)) (fun _ => ?_)
  refine lv_aload_n hx hb dX4_solve_17 rfl (lv_at hl 1 rfl) ?_
  refine lv_aload_n hx hb dX4_solve_18 rfl (lv_at hl 2 rfl) ?_
  refine lv_iload_n hx hb dX4_solve_19 rfl (lv_at hl 0 rfl) ?_
  refine lv_aload_n hx hb dX4_solve_20 rfl (lv_at hl 3 rfl) ?_
  refine lv_iload_n hx hb dX4_solve_21 rfl (lv_at hl 0 rfl) ?_
  refine x_iald (k := 284) (j := 2) hE hK hI (by decide) (e_284 G o) (by decide) (by decide) rfl dX4_solve_22 ?_
  refine lv_topi (fun z3 ez3 => ?_)
  obtain rfl : r2 = z3 := (ez3.trans (((ss1X_o (by decide)).trans ((ss0X_o (by decide)).trans ((sx_o (by decide)).trans hr2))))).symm
  refine x_callVv (k := 282) hE hK hI (c_X4_solveSize_2 l G o _ _ r2 ) mf_X4_solveSize mw_235 (by decide) ((e_282 G o) _ _) rfl rfl hl.1 rfl (Nat.le_of_ble_eq_true rfl) ⟨(Nat.le_of_ble_eq_true rfl), (Nat.le_of_ble_eq_true rfl)⟩ ⟨Nat.zero_le _, Nat.zero_le _⟩ dX4_solve_23 (fun H locs hI => ?_)
  refine lv_iinc (v := 3) (lv' := [(3, .int 3), (0, .ref (o + 282)), (1, .ref (o + 2)), (2, .ref (o + 284))]) hx hb dX4_solve_26 hl (k := 0) rfl (by decide) (by decide) rfl (fun ls hl => ?_)
  refine lv_goto (tgt := 12) hx hb dX4_solve_29 (by decide) ?_
  refine lv_iload_n hx hb dX4_solve_12 rfl (lv_at hl 0 rfl) ?_
  refine lv_iconst (v := 4) hx hb dX4_solve_13 (by decide) ?_
  refine lv_icmp_ge (tgt := 32) hx hb dX4_solve_14 (by decide) (fun q => absurd q (by decide)) (fun _ => ?_)
  refine lv_aload_n hx hb dX4_solve_17 rfl (lv_at hl 1 rfl) ?_
  refine lv_aload_n hx hb dX4_solve_18 rfl (lv_at hl 2 rfl) ?_
  refine lv_iload_n hx hb dX4_solve_19 rfl (lv_at hl 0 rfl) ?_
  refine lv_aload_n hx hb dX4_solve_20 rfl (lv_at hl 3 rfl) ?_
  refine lv_iload_n hx hb dX4_solve_21 rfl (lv_at hl 0 rfl) ?_
  refine x_iald (k := 284) (j := 3) hE hK hI (by decide) (e_284 G o) (by decide) (by decide) rfl dX4_solve_22 ?_
  refine lv_topi (fun z4 ez4 => ?_)
  obtain rfl : r3 = z4 := (ez4.trans (((ss2X_o (by decide)).trans ((ss1X_o (by decide)).trans ((ss0X_o (by decide)).trans ((sx_o (by decide)).trans hr3)))))).symm
  refine x_callVv (k := 282) hE hK hI (c_X4_solveSize_3 l G o _ _ r3 ) mf_X4_solveSize mw_235 (by decide) ((e_282 G o) _ _) rfl rfl hl.1 rfl (Nat.le_of_ble_eq_true rfl) ⟨(Nat.le_of_ble_eq_true rfl), (Nat.le_of_ble_eq_true rfl)⟩ ⟨Nat.zero_le _, Nat.zero_le _⟩ dX4_solve_23 (fun H locs hI => ?_)
  refine lv_iinc (v := 4) (lv' := [(3, .int 4), (0, .ref (o + 282)), (1, .ref (o + 2)), (2, .ref (o + 284))]) hx hb dX4_solve_26 hl (k := 0) rfl (by decide) (by decide) rfl (fun ls hl => ?_)
  refine lv_goto (tgt := 12) hx hb dX4_solve_29 (by decide) ?_
  refine lv_iload_n hx hb dX4_solve_12 rfl (lv_at hl 0 rfl) ?_
  refine lv_iconst (v := 4) hx hb dX4_solve_13 (by decide) ?_
  refine lv_icmp_ge (tgt := 32) hx hb dX4_solve_14 (by decide) (fun _ => ?_) (fun q => absurd (by decide) q)
  exact x_vret hE hr hlocks hI rfl rfl rfl dX4_solve_32
set_option maxRecDepth 100000 in
set_option maxHeartbeats 4000000 in
theorem c_X4_solveCut_0 (l : Launch) (G : GG) (o : Nat) (X : SX) (Y : SY) : Ct l yX4_solveCut cX4_solveCut 4 none 3 76 G o [.ref (o + 282), .ref (o + 2), .int 0] X Y none (solX (sx (sx (sx (sx X 284 0 0) 284 1 0) 284 2 0) 284 3 0) Y 0 0 0 0) (solY (sx (sx (sx (sx X 284 0 0) 284 1 0) 284 2 0) 284 3 0) Y 0 0 0 0) := by
  refine Ct.mk (by decide +kernel) (Nat.le_of_ble_eq_true rfl) rfl ?_
  intro p9 e9 s9 m9 args9 below9 meth9 c9 hE hr hlocks hK hI ls hl
  have hx := hE.1
  have hb := hE.2.1
  have hl : lv_has ls 4 [(0, .ref (o + 282)), (1, .ref (o + 2)), (2, .int 0)] := hl
  refine lv_iconst (v := 0) hx hb dX4_solveCut_0 (by decide) ?_
  refine lv_istore_n (lv' := [(3, .int 0), (0, .ref (o + 282)), (1, .ref (o + 2)), (2, .int 0)]) hx hb dX4_solveCut_1 rfl hl (by decide) rfl (fun ls hl => ?_)
  refine lv_iload_n hx hb dX4_solveCut_2 rfl (lv_at hl 0 rfl) ?_
  refine lv_iconst (v := 4) hx hb dX4_solveCut_3 (by decide) ?_
  refine lv_icmp_ge (tgt := 30) hx hb dX4_solveCut_4 (by decide) (fun q => absurd q (by decide)) (fun _ => ?_)
  refine lv_aload_n hx hb dX4_solveCut_7 rfl (lv_at hl 1 rfl) ?_
  refine x_get (k := 282) hE hK hI (by decide) inG4 (e_282 G o _ _) rfl 1 (by decide) mw_156 rfl dX4_solveCut_8 ?_
  refine lv_iload_n hx hb dX4_solveCut_11 rfl (lv_at hl 0 rfl) ?_
  refine lv_iload_n hx hb dX4_solveCut_12 rfl (lv_at hl 0 rfl) ?_
  refine lv_iload_n hx hb dX4_solveCut_13 rfl (lv_at hl 3 rfl) ?_
  refine lv_icmp_ge (tgt := 22) hx hb dX4_solveCut_14 (by decide) (fun _ => ?_) (fun q => absurd (by decide) q)
  refine lv_iconst (v := 0) hx hb dX4_solveCut_22 (by decide) ?_
  refine x_iast (k := 284) (j := 0) hE hK hI (by decide) (e_284 G o) (by decide) (by decide) rfl dX4_solveCut_23 (fun H locs hI => ?_)
  refine lv_iinc (v := 1) (lv' := [(3, .int 1), (0, .ref (o + 282)), (1, .ref (o + 2)), (2, .int 0)]) hx hb dX4_solveCut_24 hl (k := 0) rfl (by decide) (by decide) rfl (fun ls hl => ?_)
  refine lv_goto (tgt := 2) hx hb dX4_solveCut_27 (by decide) ?_
  refine lv_iload_n hx hb dX4_solveCut_2 rfl (lv_at hl 0 rfl) ?_
  refine lv_iconst (v := 4) hx hb dX4_solveCut_3 (by decide) ?_
  refine lv_icmp_ge (tgt := 30) hx hb dX4_solveCut_4 (by decide) (fun q => absurd q (by decide)) (fun _ => ?_)
  refine lv_aload_n hx hb dX4_solveCut_7 rfl (lv_at hl 1 rfl) ?_
  refine x_get (k := 282) hE hK hI (by decide) inG4 (e_282 G o _ _) rfl 1 (by decide) mw_156 rfl dX4_solveCut_8 ?_
  refine lv_iload_n hx hb dX4_solveCut_11 rfl (lv_at hl 0 rfl) ?_
  refine lv_iload_n hx hb dX4_solveCut_12 rfl (lv_at hl 0 rfl) ?_
  refine lv_iload_n hx hb dX4_solveCut_13 rfl (lv_at hl 3 rfl) ?_
  refine lv_icmp_ge (tgt := 22) hx hb dX4_solveCut_14 (by decide) (fun _ => ?_) (fun q => absurd (by decide) q)
  refine lv_iconst (v := 0) hx hb dX4_solveCut_22 (by decide) ?_
  refine x_iast (k := 284) (j := 1) hE hK hI (by decide) (e_284 G o) (by decide) (by decide) rfl dX4_solveCut_23 (fun H locs hI => ?_)
  refine lv_iinc (v := 2) (lv' := [(3, .int 2), (0, .ref (o + 282)), (1, .ref (o + 2)), (2, .int 0)]) hx hb dX4_solveCut_24 hl (k := 0) rfl (by decide) (by decide) rfl (fun ls hl => ?_)
  refine lv_goto (tgt := 2) hx hb dX4_solveCut_27 (by decide) ?_
  refine lv_iload_n hx hb dX4_solveCut_2 rfl (lv_at hl 0 rfl) ?_
  refine lv_iconst (v := 4) hx hb dX4_solveCut_3 (by decide) ?_
  refine lv_icmp_ge (tgt := 30) hx hb dX4_solveCut_4 (by decide) (fun q => absurd q (by decide)) (fun _ => ?_)
  refine lv_aload_n hx hb dX4_solveCut_7 rfl (lv_at hl 1 rfl) ?_
  refine x_get (k := 282) hE hK hI (by decide) inG4 (e_282 G o _ _) rfl 1 (by decide) mw_156 rfl dX4_solveCut_8 ?_
  refine lv_iload_n hx hb dX4_solveCut_11 rfl (lv_at hl 0 rfl) ?_
  refine lv_iload_n hx hb dX4_solveCut_12 rfl (lv_at hl 0 rfl) ?_
  refine lv_iload_n hx hb dX4_solveCut_13 rfl (lv_at hl 3 rfl) ?_
  refine lv_icmp_ge (tgt := 22) hx hb dX4_solveCut_14 (by decide) (fun _ => ?_) (fun q => absurd (by decide) q)
  refine lv_iconst (v := 0) hx hb dX4_solveCut_22 (by decide) ?_
  refine x_iast (k := 284) (j := 2) hE hK hI (by decide) (e_284 G o) (by decide) (by decide) rfl dX4_solveCut_23 (fun H locs hI => ?_)
  refine lv_iinc (v := 3) (lv' := [(3, .int 3), (0, .ref (o + 282)), (1, .ref (o + 2)), (2, .int 0)]) hx hb dX4_solveCut_24 hl (k := 0) rfl (by decide) (by decide) rfl (fun ls hl => ?_)
  refine lv_goto (tgt := 2) hx hb dX4_solveCut_27 (by decide) ?_
  refine lv_iload_n hx hb dX4_solveCut_2 rfl (lv_at hl 0 rfl) ?_
  refine lv_iconst (v := 4) hx hb dX4_solveCut_3 (by decide) ?_
  refine lv_icmp_ge (tgt := 30) hx hb dX4_solveCut_4 (by decide) (fun q => absurd q (by decide)) (fun _ => ?_)
  refine lv_aload_n hx hb dX4_solveCut_7 rfl (lv_at hl 1 rfl) ?_
  refine x_get (k := 282) hE hK hI (by decide) inG4 (e_282 G o _ _) rfl 1 (by decide) mw_156 rfl dX4_solveCut_8 ?_
  refine lv_iload_n hx hb dX4_solveCut_11 rfl (lv_at hl 0 rfl) ?_
  refine lv_iload_n hx hb dX4_solveCut_12 rfl (lv_at hl 0 rfl) ?_
  refine lv_iload_n hx hb dX4_solveCut_13 rfl (lv_at hl 3 rfl) ?_
  refine lv_icmp_ge (tgt := 22) hx hb dX4_solveCut_14 (by decide) (fun _ => ?_) (fun q => absurd (by decide) q)
  refine lv_iconst (v := 0) hx hb dX4_solveCut_22 (by decide) ?_
  refine x_iast (k := 284) (j := 3) hE hK hI (by decide) (e_284 G o) (by decide) (by decide) rfl dX4_solveCut_23 (fun H locs hI => ?_)
  refine lv_iinc (v := 4) (lv' := [(3, .int 4), (0, .ref (o + 282)), (1, .ref (o + 2)), (2, .int 0)]) hx hb dX4_solveCut_24 hl (k := 0) rfl (by decide) (by decide) rfl (fun ls hl => ?_)
  refine lv_goto (tgt := 2) hx hb dX4_solveCut_27 (by decide) ?_
  refine lv_iload_n hx hb dX4_solveCut_2 rfl (lv_at hl 0 rfl) ?_
  refine lv_iconst (v := 4) hx hb dX4_solveCut_3 (by decide) ?_
  refine lv_icmp_ge (tgt := 30) hx hb dX4_solveCut_4 (by decide) (fun _ => ?_) (fun q => absurd (by decide) q)
  refine lv_aload_n hx hb dX4_solveCut_30 rfl (lv_at hl 1 rfl) ?_
  refine lv_aload_n hx hb dX4_solveCut_31 rfl (lv_at hl 2 rfl) ?_
  refine lv_aload_n hx hb dX4_solveCut_32 rfl (lv_at hl 1 rfl) ?_
  refine x_get (k := 282) hE hK hI (by decide) inG4 (e_282 G o _ _) rfl 1 (by decide) mw_156 rfl dX4_solveCut_33 ?_
  refine x_callVv (k := 282) hE hK hI (c_X4_solve_284 l G o _ _ 0 0 0 0 ((sx_o (by decide)).trans ((sx_o (by decide)).trans ((sx_o (by decide)).trans (sx_e)))) ((sx_o (by decide)).trans ((sx_o (by decide)).trans (sx_e))) ((sx_o (by decide)).trans (sx_e)) sx_e) mf_X4_solve mw_284 (by decide) ((e_282 G o) _ _) rfl rfl hl.1 rfl (Nat.le_of_ble_eq_true rfl) ⟨(Nat.le_of_ble_eq_true rfl), (Nat.le_of_ble_eq_true rfl)⟩ ⟨Nat.zero_le _, Nat.zero_le _⟩ dX4_solveCut_36 (fun H locs hI => ?_)
  exact x_vret hE hr hlocks hI rfl rfl rfl dX4_solveCut_39
set_option maxRecDepth 100000 in
set_option maxHeartbeats 4000000 in
theorem c_X4_solveCut_1 (l : Launch) (G : GG) (o : Nat) (X : SX) (Y : SY) : Ct l yX4_solveCut cX4_solveCut 4 none 3 76 G o [.ref (o + 282), .ref (o + 2), .int 1] X Y none (solX (sx (sx (sx (sx X 284 0 10) 284 1 0) 284 2 0) 284 3 0) Y 10 0 0 0) (solY (sx (sx (sx (sx X 284 0 10) 284 1 0) 284 2 0) 284 3 0) Y 10 0 0 0) := by
  refine Ct.mk (by decide +kernel) (Nat.le_of_ble_eq_true rfl) rfl ?_
  intro p9 e9 s9 m9 args9 below9 meth9 c9 hE hr hlocks hK hI ls hl
  have hx := hE.1
  have hb := hE.2.1
  have hl : lv_has ls 4 [(0, .ref (o + 282)), (1, .ref (o + 2)), (2, .int 1)] := hl
  refine lv_iconst (v := 0) hx hb dX4_solveCut_0 (by decide) ?_
  refine lv_istore_n (lv' := [(3, .int 0), (0, .ref (o + 282)), (1, .ref (o + 2)), (2, .int 1)]) hx hb dX4_solveCut_1 rfl hl (by decide) rfl (fun ls hl => ?_)
  refine lv_iload_n hx hb dX4_solveCut_2 rfl (lv_at hl 0 rfl) ?_
  refine lv_iconst (v := 4) hx hb dX4_solveCut_3 (by decide) ?_
  refine lv_icmp_ge (tgt := 30) hx hb dX4_solveCut_4 (by decide) (fun q => absurd q (by decide)) (fun _ => ?_)
  refine lv_aload_n hx hb dX4_solveCut_7 rfl (lv_at hl 1 rfl) ?_
  refine x_get (k := 282) hE hK hI (by decide) inG4 (e_282 G o _ _) rfl 1 (by decide) mw_156 rfl dX4_solveCut_8 ?_
  refine lv_iload_n hx hb dX4_solveCut_11 rfl (lv_at hl 0 rfl) ?_
  refine lv_iload_n hx hb dX4_solveCut_12 rfl (lv_at hl 0 rfl) ?_
  refine lv_iload_n hx hb dX4_solveCut_13 rfl (lv_at hl 3 rfl) ?_
  refine lv_icmp_ge (tgt := 22) hx hb dX4_solveCut_14 (by decide) (fun q => absurd q (by decide)) (fun _ => ?_)
  refine lv_bipush (v := 10) hx hb dX4_solveCut_17 (by decide) ?_
  refine lv_goto (tgt := 23) hx hb dX4_solveCut_19 (by decide) ?_
  refine x_iast (k := 284) (j := 0) hE hK hI (by decide) (e_284 G o) (by decide) (by decide) rfl dX4_solveCut_23 (fun H locs hI => ?_)
  refine lv_iinc (v := 1) (lv' := [(3, .int 1), (0, .ref (o + 282)), (1, .ref (o + 2)), (2, .int 1)]) hx hb dX4_solveCut_24 hl (k := 0) rfl (by decide) (by decide) rfl (fun ls hl => ?_)
  refine lv_goto (tgt := 2) hx hb dX4_solveCut_27 (by decide) ?_
  refine lv_iload_n hx hb dX4_solveCut_2 rfl (lv_at hl 0 rfl) ?_
  refine lv_iconst (v := 4) hx hb dX4_solveCut_3 (by decide) ?_
  refine lv_icmp_ge (tgt := 30) hx hb dX4_solveCut_4 (by decide) (fun q => absurd q (by decide)) (fun _ => ?_)
  refine lv_aload_n hx hb dX4_solveCut_7 rfl (lv_at hl 1 rfl) ?_
  refine x_get (k := 282) hE hK hI (by decide) inG4 (e_282 G o _ _) rfl 1 (by decide) mw_156 rfl dX4_solveCut_8 ?_
  refine lv_iload_n hx hb dX4_solveCut_11 rfl (lv_at hl 0 rfl) ?_
  refine lv_iload_n hx hb dX4_solveCut_12 rfl (lv_at hl 0 rfl) ?_
  refine lv_iload_n hx hb dX4_solveCut_13 rfl (lv_at hl 3 rfl) ?_
  refine lv_icmp_ge (tgt := 22) hx hb dX4_solveCut_14 (by decide) (fun _ => ?_) (fun q => absurd (by decide) q)
  refine lv_iconst (v := 0) hx hb dX4_solveCut_22 (by decide) ?_
  refine x_iast (k := 284) (j := 1) hE hK hI (by decide) (e_284 G o) (by decide) (by decide) rfl dX4_solveCut_23 (fun H locs hI => ?_)
  refine lv_iinc (v := 2) (lv' := [(3, .int 2), (0, .ref (o + 282)), (1, .ref (o + 2)), (2, .int 1)]) hx hb dX4_solveCut_24 hl (k := 0) rfl (by decide) (by decide) rfl (fun ls hl => ?_)
  refine lv_goto (tgt := 2) hx hb dX4_solveCut_27 (by decide) ?_
  refine lv_iload_n hx hb dX4_solveCut_2 rfl (lv_at hl 0 rfl) ?_
  refine lv_iconst (v := 4) hx hb dX4_solveCut_3 (by decide) ?_
  refine lv_icmp_ge (tgt := 30) hx hb dX4_solveCut_4 (by decide) (fun q => absurd q (by decide)) (fun _ => ?_)
  refine lv_aload_n hx hb dX4_solveCut_7 rfl (lv_at hl 1 rfl) ?_
  refine x_get (k := 282) hE hK hI (by decide) inG4 (e_282 G o _ _) rfl 1 (by decide) mw_156 rfl dX4_solveCut_8 ?_
  refine lv_iload_n hx hb dX4_solveCut_11 rfl (lv_at hl 0 rfl) ?_
  refine lv_iload_n hx hb dX4_solveCut_12 rfl (lv_at hl 0 rfl) ?_
  refine lv_iload_n hx hb dX4_solveCut_13 rfl (lv_at hl 3 rfl) ?_
  refine lv_icmp_ge (tgt := 22) hx hb dX4_solveCut_14 (by decide) (fun _ => ?_) (fun q => absurd (by decide) q)
  refine lv_iconst (v := 0) hx hb dX4_solveCut_22 (by decide) ?_
  refine x_iast (k := 284) (j := 2) hE hK hI (by decide) (e_284 G o) (by decide) (by decide) rfl dX4_solveCut_23 (fun H locs hI => ?_)
  refine lv_iinc (v := 3) (lv' := [(3, .int 3), (0, .ref (o + 282)), (1, .ref (o + 2)), (2, .int 1)]) hx hb dX4_solveCut_24 hl (k := 0) rfl (by decide) (by decide) rfl (fun ls hl => ?_)
  refine lv_goto (tgt := 2) hx hb dX4_solveCut_27 (by decide) ?_
  refine lv_iload_n hx hb dX4_solveCut_2 rfl (lv_at hl 0 rfl) ?_
  refine lv_iconst (v := 4) hx hb dX4_solveCut_3 (by decide) ?_
  refine lv_icmp_ge (tgt := 30) hx hb dX4_solveCut_4 (by decide) (fun q => absurd q (by decide)) (fun _ => ?_)
  refine lv_aload_n hx hb dX4_solveCut_7 rfl (lv_at hl 1 rfl) ?_
  refine x_get (k := 282) hE hK hI (by decide) inG4 (e_282 G o _ _) rfl 1 (by decide) mw_156 rfl dX4_solveCut_8 ?_
  refine lv_iload_n hx hb dX4_solveCut_11 rfl (lv_at hl 0 rfl) ?_
  refine lv_iload_n hx hb dX4_solveCut_12 rfl (lv_at hl 0 rfl) ?_
  refine lv_iload_n hx hb dX4_solveCut_13 rfl (lv_at hl 3 rfl) ?_
  refine lv_icmp_ge (tgt := 22) hx hb dX4_solveCut_14 (by decide) (fun _ => ?_) (fun q => absurd (by decide) q)
  refine lv_iconst (v := 0) hx hb dX4_solveCut_22 (by decide) ?_
  refine x_iast (k := 284) (j := 3) hE hK hI (by decide) (e_284 G o) (by decide) (by decide) rfl dX4_solveCut_23 (fun H locs hI => ?_)
  refine lv_iinc (v := 4) (lv' := [(3, .int 4), (0, .ref (o + 282)), (1, .ref (o + 2)), (2, .int 1)]) hx hb dX4_solveCut_24 hl (k := 0) rfl (by decide) (by decide) rfl (fun ls hl => ?_)
  refine lv_goto (tgt := 2) hx hb dX4_solveCut_27 (by decide) ?_
  refine lv_iload_n hx hb dX4_solveCut_2 rfl (lv_at hl 0 rfl) ?_
  refine lv_iconst (v := 4) hx hb dX4_solveCut_3 (by decide) ?_
  refine lv_icmp_ge (tgt := 30) hx hb dX4_solveCut_4 (by decide) (fun _ => ?_) (fun q => absurd (by decide) q)
  refine lv_aload_n hx hb dX4_solveCut_30 rfl (lv_at hl 1 rfl) ?_
  refine lv_aload_n hx hb dX4_solveCut_31 rfl (lv_at hl 2 rfl) ?_
  refine lv_aload_n hx hb dX4_solveCut_32 rfl (lv_at hl 1 rfl) ?_
  refine x_get (k := 282) hE hK hI (by decide) inG4 (e_282 G o _ _) rfl 1 (by decide) mw_156 rfl dX4_solveCut_33 ?_
  refine x_callVv (k := 282) hE hK hI (c_X4_solve_284 l G o _ _ 10 0 0 0 ((sx_o (by decide)).trans ((sx_o (by decide)).trans ((sx_o (by decide)).trans (sx_e)))) ((sx_o (by decide)).trans ((sx_o (by decide)).trans (sx_e))) ((sx_o (by decide)).trans (sx_e)) sx_e) mf_X4_solve mw_284 (by decide) ((e_282 G o) _ _) rfl rfl hl.1 rfl (Nat.le_of_ble_eq_true rfl) ⟨(Nat.le_of_ble_eq_true rfl), (Nat.le_of_ble_eq_true rfl)⟩ ⟨Nat.zero_le _, Nat.zero_le _⟩ dX4_solveCut_36 (fun H locs hI => ?_)
  exact x_vret hE hr hlocks hI rfl rfl rfl dX4_solveCut_39
set_option maxRecDepth 100000 in
set_option maxHeartbeats 4000000 in
theorem c_X4_solveCut_2 (l : Launch) (G : GG) (o : Nat) (X : SX) (Y : SY) : Ct l yX4_solveCut cX4_solveCut 4 none 3 76 G o [.ref (o + 282), .ref (o + 2), .int 2] X Y none (solX (sx (sx (sx (sx X 284 0 10) 284 1 10) 284 2 0) 284 3 0) Y 10 10 0 0) (solY (sx (sx (sx (sx X 284 0 10) 284 1 10) 284 2 0) 284 3 0) Y 10 10 0 0) := by
  refine Ct.mk (by decide +kernel) (Nat.le_of_ble_eq_true rfl) rfl ?_
  intro p9 e9 s9 m9 args9 below9 meth9 c9 hE hr hlocks hK hI ls hl
  have hx := hE.1
  have hb := hE.2.1
  have hl : lv_has ls 4 [(0, .ref (o + 282)), (1, .ref (o + 2)), (2, .int 2)] := hl
  refine lv_iconst (v := 0) hx hb dX4_solveCut_0 (by decide) ?_
  refine lv_istore_n (lv' := [(3, .int 0), (0, .ref (o + 282)), (1, .ref (o + 2)), (2, .int 2)]) hx hb dX4_solveCut_1 rfl hl (by decide) rfl (fun ls hl => ?_)
  refine lv_iload_n hx hb dX4_solveCut_2 rfl (lv_at hl 0 rfl) ?_
  refine lv_iconst (v := 4) hx hb dX4_solveCut_3 (by decide) ?_
  refine lv_icmp_ge (tgt := 30) hx hb dX4_solveCut_4 (by decide) (fun q => absurd q (by decide)) (fun _ => ?_)
  refine lv_aload_n hx hb dX4_solveCut_7 rfl (lv_at hl 1 rfl) ?_
  refine x_get (k := 282) hE hK hI (by decide) inG4 (e_282 G o _ _) rfl 1 (by decide) mw_156 rfl dX4_solveCut_8 ?_
  refine lv_iload_n hx hb dX4_solveCut_11 rfl (lv_at hl 0 rfl) ?_
  refine lv_iload_n hx hb dX4_solveCut_12 rfl (lv_at hl 0 rfl) ?_
  refine lv_iload_n hx hb dX4_solveCut_13 rfl (lv_at hl 3 rfl) ?_
  refine lv_icmp_ge (tgt := 22) hx hb dX4_solveCut_14 (by decide) (fun q => absurd q (by decide)) (fun _ => ?_)
  refine lv_bipush (v := 10) hx hb dX4_solveCut_17 (by decide) ?_
  refine lv_goto (tgt := 23) hx hb dX4_solveCut_19 (by decide) ?_
  refine x_iast (k := 284) (j := 0) hE hK hI (by decide) (e_284 G o) (by decide) (by decide) rfl dX4_solveCut_23 (fun H locs hI => ?_)
  refine lv_iinc (v := 1) (lv' := [(3, .int 1), (0, .ref (o + 282)), (1, .ref (o + 2)), (2, .int 2)]) hx hb dX4_solveCut_24 hl (k := 0) rfl (by decide) (by decide) rfl (fun ls hl => ?_)
  refine lv_goto (tgt := 2) hx hb dX4_solveCut_27 (by decide) ?_
  refine lv_iload_n hx hb dX4_solveCut_2 rfl (lv_at hl 0 rfl) ?_
  refine lv_iconst (v := 4) hx hb dX4_solveCut_3 (by decide) ?_
  refine lv_icmp_ge (tgt := 30) hx hb dX4_solveCut_4 (by decide) (fun q => absurd q (by decide)) (fun _ => ?_)
  refine lv_aload_n hx hb dX4_solveCut_7 rfl (lv_at hl 1 rfl) ?_
  refine x_get (k := 282) hE hK hI (by decide) inG4 (e_282 G o _ _) rfl 1 (by decide) mw_156 rfl dX4_solveCut_8 ?_
  refine lv_iload_n hx hb dX4_solveCut_11 rfl (lv_at hl 0 rfl) ?_
  refine lv_iload_n hx hb dX4_solveCut_12 rfl (lv_at hl 0 rfl) ?_
  refine lv_iload_n hx hb dX4_solveCut_13 rfl (lv_at hl 3 rfl) ?_
  refine lv_icmp_ge (tgt := 22) hx hb dX4_solveCut_14 (by decide) (fun q => absurd q (by decide)) (fun _ => ?_)
  refine lv_bipush (v := 10) hx hb dX4_solveCut_17 (by decide) ?_
  refine lv_goto (tgt := 23) hx hb dX4_solveCut_19 (by decide) ?_
  refine x_iast (k := 284) (j := 1) hE hK hI (by decide) (e_284 G o) (by decide) (by decide) rfl dX4_solveCut_23 (fun H locs hI => ?_)
  refine lv_iinc (v := 2) (lv' := [(3, .int 2), (0, .ref (o + 282)), (1, .ref (o + 2)), (2, .int 2)]) hx hb dX4_solveCut_24 hl (k := 0) rfl (by decide) (by decide) rfl (fun ls hl => ?_)
  refine lv_goto (tgt := 2) hx hb dX4_solveCut_27 (by decide) ?_
  refine lv_iload_n hx hb dX4_solveCut_2 rfl (lv_at hl 0 rfl) ?_
  refine lv_iconst (v := 4) hx hb dX4_solveCut_3 (by decide) ?_
  refine lv_icmp_ge (tgt := 30) hx hb dX4_solveCut_4 (by decide) (fun q => absurd q (by decide)) (fun _ => ?_)
  refine lv_aload_n hx hb dX4_solveCut_7 rfl (lv_at hl 1 rfl) ?_
  refine x_get (k := 282) hE hK hI (by decide) inG4 (e_282 G o _ _) rfl 1 (by decide) mw_156 rfl dX4_solveCut_8 ?_
  refine lv_iload_n hx hb dX4_solveCut_11 rfl (lv_at hl 0 rfl) ?_
  refine lv_iload_n hx hb dX4_solveCut_12 rfl (lv_at hl 0 rfl) ?_
  refine lv_iload_n hx hb dX4_solveCut_13 rfl (lv_at hl 3 rfl) ?_
  refine lv_icmp_ge (tgt := 22) hx hb dX4_solveCut_14 (by decide) (fun _ => ?_) (fun q => absurd (by decide) q)
  refine lv_iconst (v := 0) hx hb dX4_solveCut_22 (by decide) ?_
  refine x_iast (k := 284) (j := 2) hE hK hI (by decide) (e_284 G o) (by decide) (by decide) rfl dX4_solveCut_23 (fun H locs hI => ?_)
  refine lv_iinc (v := 3) (lv' := [(3, .int 3), (0, .ref (o + 282)), (1, .ref (o + 2)), (2, .int 2)]) hx hb dX4_solveCut_24 hl (k := 0) rfl (by decide) (by decide) rfl (fun ls hl => ?_)
  refine lv_goto (tgt := 2) hx hb dX4_solveCut_27 (by decide) ?_
  refine lv_iload_n hx hb dX4_solveCut_2 rfl (lv_at hl 0 rfl) ?_
  refine lv_iconst (v := 4) hx hb dX4_solveCut_3 (by decide) ?_
  refine lv_icmp_ge (tgt := 30) hx hb dX4_solveCut_4 (by decide) (fun q => absurd q (by decide)) (fun _ => ?_)
  refine lv_aload_n hx hb dX4_solveCut_7 rfl (lv_at hl 1 rfl) ?_
  refine x_get (k := 282) hE hK hI (by decide) inG4 (e_282 G o _ _) rfl 1 (by decide) mw_156 rfl dX4_solveCut_8 ?_
  refine lv_iload_n hx hb dX4_solveCut_11 rfl (lv_at hl 0 rfl) ?_
  refine lv_iload_n hx hb dX4_solveCut_12 rfl (lv_at hl 0 rfl) ?_
  refine lv_iload_n hx hb dX4_solveCut_13 rfl (lv_at hl 3 rfl) ?_
  refine lv_icmp_ge (tgt := 22) hx hb dX4_solveCut_14 (by decide) (fun _ => ?_) (fun q => absurd (by decide) q)
  refine lv_iconst (v := 0) hx hb dX4_solveCut_22 (by decide) ?_
  refine x_iast (k := 284) (j := 3) hE hK hI (by decide) (e_284 G o) (by decide) (by decide) rfl dX4_solveCut_23 (fun H locs hI => ?_)
  refine lv_iinc (v := 4) (lv' := [(3, .int 4), (0, .ref (o + 282)), (1, .ref (o + 2)), (2, .int 2)]) hx hb dX4_solveCut_24 hl (k := 0) rfl (by decide) (by decide) rfl (fun ls hl => ?_)
  refine lv_goto (tgt := 2) hx hb dX4_solveCut_27 (by decide) ?_
  refine lv_iload_n hx hb dX4_solveCut_2 rfl (lv_at hl 0 rfl) ?_
  refine lv_iconst (v := 4) hx hb dX4_solveCut_3 (by decide) ?_
  refine lv_icmp_ge (tgt := 30) hx hb dX4_solveCut_4 (by decide) (fun _ => ?_) (fun q => absurd (by decide) q)
  refine lv_aload_n hx hb dX4_solveCut_30 rfl (lv_at hl 1 rfl) ?_
  refine lv_aload_n hx hb dX4_solveCut_31 rfl (lv_at hl 2 rfl) ?_
  refine lv_aload_n hx hb dX4_solveCut_32 rfl (lv_at hl 1 rfl) ?_
  refine x_get (k := 282) hE hK hI (by decide) inG4 (e_282 G o _ _) rfl 1 (by decide) mw_156 rfl dX4_solveCut_33 ?_
  refine x_callVv (k := 282) hE hK hI (c_X4_solve_284 l G o _ _ 10 10 0 0 ((sx_o (by decide)).trans ((sx_o (by decide)).trans ((sx_o (by decide)).trans (sx_e)))) ((sx_o (by decide)).trans ((sx_o (by decide)).trans (sx_e))) ((sx_o (by decide)).trans (sx_e)) sx_e) mf_X4_solve mw_284 (by decide) ((e_282 G o) _ _) rfl rfl hl.1 rfl (Nat.le_of_ble_eq_true rfl) ⟨(Nat.le_of_ble_eq_true rfl), (Nat.le_of_ble_eq_true rfl)⟩ ⟨Nat.zero_le _, Nat.zero_le _⟩ dX4_solveCut_36 (fun H locs hI => ?_)
  exact x_vret hE hr hlocks hI rfl rfl rfl dX4_solveCut_39
set_option maxRecDepth 100000 in
set_option maxHeartbeats 4000000 in
theorem c_X4_solveCut_3 (l : Launch) (G : GG) (o : Nat) (X : SX) (Y : SY) : Ct l yX4_solveCut cX4_solveCut 4 none 3 76 G o [.ref (o + 282), .ref (o + 2), .int 3] X Y none (solX (sx (sx (sx (sx X 284 0 10) 284 1 10) 284 2 10) 284 3 0) Y 10 10 10 0) (solY (sx (sx (sx (sx X 284 0 10) 284 1 10) 284 2 10) 284 3 0) Y 10 10 10 0) := by
  refine Ct.mk (by decide +kernel) (Nat.le_of_ble_eq_true rfl) rfl ?_
  intro p9 e9 s9 m9 args9 below9 meth9 c9 hE hr hlocks hK hI ls hl
  have hx := hE.1
  have hb := hE.2.1
  have hl : lv_has ls 4 [(0, .ref (o + 282)), (1, .ref (o + 2)), (2, .int 3)] := hl
  refine lv_iconst (v := 0) hx hb dX4_solveCut_0 (by decide) ?_
  refine lv_istore_n (lv' := [(3, .int 0), (0, .ref (o + 282)), (1, .ref (o + 2)), (2, .int 3)]) hx hb dX4_solveCut_1 rfl hl (by decide) rfl (fun ls hl => ?_)
  refine lv_iload_n hx hb dX4_solveCut_2 rfl (lv_at hl 0 rfl) ?_
  refine lv_iconst (v := 4) hx hb dX4_solveCut_3 (by decide) ?_
  refine lv_icmp_ge (tgt := 30) hx hb dX4_solveCut_4 (by decide) (fun q => absurd q (by decide)) (fun _ => ?_)
  refine lv_aload_n hx hb dX4_solveCut_7 rfl (lv_at hl 1 rfl) ?_
  refine x_get (k := 282) hE hK hI (by decide) inG4 (e_282 G o _ _) rfl 1 (by decide) mw_156 rfl dX4_solveCut_8 ?_
  refine lv_iload_n hx hb dX4_solveCut_11 rfl (lv_at hl 0 rfl) ?_
  refine lv_iload_n hx hb dX4_solveCut_12 rfl (lv_at hl 0 rfl) ?_
  refine lv_iload_n hx hb dX4_solveCut_13 rfl (lv_at hl 3 rfl) ?_
  refine lv_icmp_ge (tgt := 22) hx hb dX4_solveCut_14 (by decide) (fun q => absurd q (by decide)) (fun _ => ?_)
  refine lv_bipush (v := 10) hx hb dX4_solveCut_17 (by decide) ?_
  refine lv_goto (tgt := 23) hx hb dX4_solveCut_19 (by decide) ?_
  refine x_iast (k := 284) (j := 0) hE hK hI (by decide) (e_284 G o) (by decide) (by decide) rfl dX4_solveCut_23 (fun H locs hI => ?_)
  refine lv_iinc (v := 1) (lv' := [(3, .int 1), (0, .ref (o + 282)), (1, .ref (o + 2)), (2, .int 3)]) hx hb dX4_solveCut_24 hl (k := 0) rfl (by decide) (by decide) rfl (fun ls hl => ?_)
  refine lv_goto (tgt := 2) hx hb dX4_solveCut_27 (by decide) ?_
  refine lv_iload_n hx hb dX4_solveCut_2 rfl (lv_at hl 0 rfl) ?_
  refine lv_iconst (v := 4) hx hb dX4_solveCut_3 (by decide) ?_
  refine lv_icmp_ge (tgt := 30) hx hb dX4_solveCut_4 (by decide) (fun q => absurd q (by decide)) (fun _ => ?_)
  refine lv_aload_n hx hb dX4_solveCut_7 rfl (lv_at hl 1 rfl) ?_
  refine x_get (k := 282) hE hK hI (by decide) inG4 (e_282 G o _ _) rfl 1 (by decide) mw_156 rfl dX4_solveCut_8 ?_
  refine lv_iload_n hx hb dX4_solveCut_11 rfl (lv_at hl 0 rfl) ?_
  refine lv_iload_n hx hb dX4_solveCut_12 rfl (lv_at hl 0 rfl) ?_
  refine lv_iload_n hx hb dX4_solveCut_13 rfl (lv_at hl 3 rfl) ?_
  refine lv_icmp_ge (tgt := 22) hx hb dX4_solveCut_14 (by decide) (fun q => absurd q (by decide)) (fun _ => ?_)
  refine lv_bipush (v := 10) hx hb dX4_solveCut_17 (by decide) ?_
  refine lv_goto (tgt := 23) hx hb dX4_solveCut_19 (by decide) ?_
  refine x_iast (k := 284) (j := 1) hE hK hI (by decide) (e_284 G o) (by decide) (by decide) rfl dX4_solveCut_23 (fun H locs hI => ?_)
  refine lv_iinc (v := 2) (lv' := [(3, .int 2), (0, .ref (o + 282)), (1, .ref (o + 2)), (2, .int 3)]) hx hb dX4_solveCut_24 hl (k := 0) rfl (by decide) (by decide) rfl (fun ls hl => ?_)
  refine lv_goto (tgt := 2) hx hb dX4_solveCut_27 (by decide) ?_
  refine lv_iload_n hx hb dX4_solveCut_2 rfl (lv_at hl 0 rfl) ?_
  refine lv_iconst (v := 4) hx hb dX4_solveCut_3 (by decide) ?_
  refine lv_icmp_ge (tgt := 30) hx hb dX4_solveCut_4 (by decide) (fun q => absurd q (by decide)) (fun _ => ?_)
  refine lv_aload_n hx hb dX4_solveCut_7 rfl (lv_at hl 1 rfl) ?_
  refine x_get (k := 282) hE hK hI (by decide) inG4 (e_282 G o _ _) rfl 1 (by decide) mw_156 rfl dX4_solveCut_8 ?_
  refine lv_iload_n hx hb dX4_solveCut_11 rfl (lv_at hl 0 rfl) ?_
  refine lv_iload_n hx hb dX4_solveCut_12 rfl (lv_at hl 0 rfl) ?_
  refine lv_iload_n hx hb dX4_solveCut_13 rfl (lv_at hl 3 rfl) ?_
  refine lv_icmp_ge (tgt := 22) hx hb dX4_solveCut_14 (by decide) (fun q => absurd q (by decide)) (fun _ => ?_)
  refine lv_bipush (v := 10) hx hb dX4_solveCut_17 (by decide) ?_
  refine lv_goto (tgt := 23) hx hb dX4_solveCut_19 (by decide) ?_
  refine x_iast (k := 284) (j := 2) hE hK hI (by decide) (e_284 G o) (by decide) (by decide) rfl dX4_solveCut_23 (fun H locs hI => ?_)
  refine lv_iinc (v := 3) (lv' := [(3, .int 3), (0, .ref (o + 282)), (1, .ref (o + 2)), (2, .int 3)]) hx hb dX4_solveCut_24 hl (k := 0) rfl (by decide) (by decide) rfl (fun ls hl => ?_)
  refine lv_goto (tgt := 2) hx hb dX4_solveCut_27 (by decide) ?_
  refine lv_iload_n hx hb dX4_solveCut_2 rfl (lv_at hl 0 rfl) ?_
  refine lv_iconst (v := 4) hx hb dX4_solveCut_3 (by decide) ?_
  refine lv_icmp_ge (tgt := 30) hx hb dX4_solveCut_4 (by decide) (fun q => absurd q (by decide)) (fun _ => ?_)
  refine lv_aload_n hx hb dX4_solveCut_7 rfl (lv_at hl 1 rfl) ?_
  refine x_get (k := 282) hE hK hI (by decide) inG4 (e_282 G o _ _) rfl 1 (by decide) mw_156 rfl dX4_solveCut_8 ?_
  refine lv_iload_n hx hb dX4_solveCut_11 rfl (lv_at hl 0 rfl) ?_
  refine lv_iload_n hx hb dX4_solveCut_12 rfl (lv_at hl 0 rfl) ?_
  refine lv_iload_n hx hb dX4_solveCut_13 rfl (lv_at hl 3 rfl) ?_
  refine lv_icmp_ge (tgt := 22) hx hb dX4_solveCut_14 (by decide) (fun _ => ?_) (fun q => absurd (by decide) q)
  refine lv_iconst (v := 0) hx hb dX4_solveCut_22 (by decide) ?_
  refine x_iast (k := 284) (j := 3) hE hK hI (by decide) (e_284 G o) (by decide) (by decide) rfl dX4_solveCut_23 (fun H locs hI => ?_)
  refine lv_iinc (v := 4) (lv' := [(3, .int 4), (0, .ref (o + 282)), (1, .ref (o + 2)), (2, .int 3)]) hx hb dX4_solveCut_24 hl (k := 0) rfl (by decide) (by decide) rfl (fun ls hl => ?_)
  refine lv_goto (tgt := 2) hx hb dX4_solveCut_27 (by decide) ?_
  refine lv_iload_n hx hb dX4_solveCut_2 rfl (lv_at hl 0 rfl) ?_
  refine lv_iconst (v := 4) hx hb dX4_solveCut_3 (by decide) ?_
  refine lv_icmp_ge (tgt := 30) hx hb dX4_solveCut_4 (by decide) (fun _ => ?_) (fun q => absurd (by decide) q)
  refine lv_aload_n hx hb dX4_solveCut_30 rfl (lv_at hl 1 rfl) ?_
  refine lv_aload_n hx hb dX4_solveCut_31 rfl (lv_at hl 2 rfl) ?_
  refine lv_aload_n hx hb dX4_solveCut_32 rfl (lv_at hl 1 rfl) ?_
  refine x_get (k := 282) hE hK hI (by decide) inG4 (e_282 G o _ _) rfl 1 (by decide) mw_156 rfl dX4_solveCut_33 ?_
  refine x_callVv (k := 282) hE hK hI (c_X4_solve_284 l G o _ _ 10 10 10 0 ((sx_o (by decide)).trans ((sx_o (by decide)).trans ((sx_o (by decide)).trans (sx_e)))) ((sx_o (by decide)).trans ((sx_o (by decide)).trans (sx_e))) ((sx_o (by decide)).trans (sx_e)) sx_e) mf_X4_solve mw_284 (by decide) ((e_282 G o) _ _) rfl rfl hl.1 rfl (Nat.le_of_ble_eq_true rfl) ⟨(Nat.le_of_ble_eq_true rfl), (Nat.le_of_ble_eq_true rfl)⟩ ⟨Nat.zero_le _, Nat.zero_le _⟩ dX4_solveCut_36 (fun H locs hI => ?_)
  exact x_vret hE hr hlocks hI rfl rfl rfl dX4_solveCut_39
set_option maxRecDepth 100000 in
set_option maxHeartbeats 4000000 in
theorem c_X4_solveCut_4 (l : Launch) (G : GG) (o : Nat) (X : SX) (Y : SY) : Ct l yX4_solveCut cX4_solveCut 4 none 3 76 G o [.ref (o + 282), .ref (o + 2), .int 4] X Y none (solX (sx (sx (sx (sx X 284 0 10) 284 1 10) 284 2 10) 284 3 10) Y 10 10 10 10) (solY (sx (sx (sx (sx X 284 0 10) 284 1 10) 284 2 10) 284 3 10) Y 10 10 10 10) := by
  refine Ct.mk (by decide +kernel) (Nat.le_of_ble_eq_true rfl) rfl ?_
  intro p9 e9 s9 m9 args9 below9 meth9 c9 hE hr hlocks hK hI ls hl
  have hx := hE.1
  have hb := hE.2.1
  have hl : lv_has ls 4 [(0, .ref (o + 282)), (1, .ref (o + 2)), (2, .int 4)] := hl
  refine lv_iconst (v := 0) hx hb dX4_solveCut_0 (by decide) ?_
  refine lv_istore_n (lv' := [(3, .int 0), (0, .ref (o + 282)), (1, .ref (o + 2)), (2, .int 4)]) hx hb dX4_solveCut_1 rfl hl (by decide) rfl (fun ls hl => ?_)
  refine lv_iload_n hx hb dX4_solveCut_2 rfl (lv_at hl 0 rfl) ?_
  refine lv_iconst (v := 4) hx hb dX4_solveCut_3 (by decide) ?_
  refine lv_icmp_ge (tgt := 30) hx hb dX4_solveCut_4 (by decide) (fun q => absurd q (by decide)) (fun _ => ?_)
  refine lv_aload_n hx hb dX4_solveCut_7 rfl (lv_at hl 1 rfl) ?_
  refine x_get (k := 282) hE hK hI (by decide) inG4 (e_282 G o _ _) rfl 1 (by decide) mw_156 rfl dX4_solveCut_8 ?_
  refine lv_iload_n hx hb dX4_solveCut_11 rfl (lv_at hl 0 rfl) ?_
  refine lv_iload_n hx hb dX4_solveCut_12 rfl (lv_at hl 0 rfl) ?_
  refine lv_iload_n hx hb dX4_solveCut_13 rfl (lv_at hl 3 rfl) ?_
  refine lv_icmp_ge (tgt := 22) hx hb dX4_solveCut_14 (by decide) (fun q => absurd q (by decide)) (fun _ => ?_)
  refine lv_bipush (v := 10) hx hb dX4_solveCut_17 (by decide) ?_
  refine lv_goto (tgt := 23) hx hb dX4_solveCut_19 (by decide) ?_
  refine x_iast (k := 284) (j := 0) hE hK hI (by decide) (e_284 G o) (by decide) (by decide) rfl dX4_solveCut_23 (fun H locs hI => ?_)
  refine lv_iinc (v := 1) (lv' := [(3, .int 1), (0, .ref (o + 282)), (1, .ref (o + 2)), (2, .int 4)]) hx hb dX4_solveCut_24 hl (k := 0) rfl (by decide) (by decide) rfl (fun ls hl => ?_)
  refine lv_goto (tgt := 2) hx hb dX4_solveCut_27 (by decide) ?_
  refine lv_iload_n hx hb dX4_solveCut_2 rfl (lv_at hl 0 rfl) ?_
  refine lv_iconst (v := 4) hx hb dX4_solveCut_3 (by decide) ?_
  refine lv_icmp_ge (tgt := 30) hx hb dX4_solveCut_4 (by decide) (fun q => absurd q (by decide)) (fun _ => ?_)
  refine lv_aload_n hx hb dX4_solveCut_7 rfl (lv_at hl 1 rfl) ?_
  refine x_get (k := 282) hE hK hI (by decide) inG4 (e_282 G o _ _) rfl 1 (by decide) mw_156 rfl dX4_solveCut_8 ?_
  refine lv_iload_n hx hb dX4_solveCut_11 rfl (lv_at hl 0 rfl) ?_
  refine lv_iload_n hx hb dX4_solveCut_12 rfl (lv_at hl 0 rfl) ?_
  refine lv_iload_n hx hb dX4_solveCut_13 rfl (lv_at hl 3 rfl) ?_
  refine lv_icmp_ge (tgt := 22) hx hb dX4_solveCut_14 (by decide) (fun q => absurd q (by decide)) (fun _ => ?_)
  refine lv_bipush (v := 10) hx hb dX4_solveCut_17 (by decide) ?_
  refine lv_goto (tgt := 23) hx hb dX4_solveCut_19 (by decide) ?_
  refine x_iast (k := 284) (j := 1) hE hK hI (by decide) (e_284 G o) (by decide) (by decide) rfl dX4_solveCut_23 (fun H locs hI => ?_)
  refine lv_iinc (v := 2) (lv' := [(3, .int 2), (0, .ref (o + 282)), (1, .ref (o + 2)), (2, .int 4)]) hx hb dX4_solveCut_24 hl (k := 0) rfl (by decide) (by decide) rfl (fun ls hl => ?_)
  refine lv_goto (tgt := 2) hx hb dX4_solveCut_27 (by decide) ?_
  refine lv_iload_n hx hb dX4_solveCut_2 rfl (lv_at hl 0 rfl) ?_
  refine lv_iconst (v := 4) hx hb dX4_solveCut_3 (by decide) ?_
  refine lv_icmp_ge (tgt := 30) hx hb dX4_solveCut_4 (by decide) (fun q => absurd q (by decide)) (fun _ => ?_)
  refine lv_aload_n hx hb dX4_solveCut_7 rfl (lv_at hl 1 rfl) ?_
  refine x_get (k := 282) hE hK hI (by decide) inG4 (e_282 G o _ _) rfl 1 (by decide) mw_156 rfl dX4_solveCut_8 ?_
  refine lv_iload_n hx hb dX4_solveCut_11 rfl (lv_at hl 0 rfl) ?_
  refine lv_iload_n hx hb dX4_solveCut_12 rfl (lv_at hl 0 rfl) ?_
  refine lv_iload_n hx hb dX4_solveCut_13 rfl (lv_at hl 3 rfl) ?_
  refine lv_icmp_ge (tgt := 22) hx hb dX4_solveCut_14 (by decide) (fun q => absurd q (by decide)) (fun _ => ?_)
  refine lv_bipush (v := 10) hx hb dX4_solveCut_17 (by decide) ?_
  refine lv_goto (tgt := 23) hx hb dX4_solveCut_19 (by decide) ?_
  refine x_iast (k := 284) (j := 2) hE hK hI (by decide) (e_284 G o) (by decide) (by decide) rfl dX4_solveCut_23 (fun H locs hI => ?_)
  refine lv_iinc (v := 3) (lv' := [(3, .int 3), (0, .ref (o + 282)), (1, .ref (o + 2)), (2, .int 4)]) hx hb dX4_solveCut_24 hl (k := 0) rfl (by decide) (by decide) rfl (fun ls hl => ?_)
  refine lv_goto (tgt := 2) hx hb dX4_solveCut_27 (by decide) ?_
  refine lv_iload_n hx hb dX4_solveCut_2 rfl (lv_at hl 0 rfl) ?_
  refine lv_iconst (v := 4) hx hb dX4_solveCut_3 (by decide) ?_
  refine lv_icmp_ge (tgt := 30) hx hb dX4_solveCut_4 (by decide) (fun q => absurd q (by decide)) (fun _ => ?_)
  refine lv_aload_n hx hb dX4_solveCut_7 rfl (lv_at hl 1 rfl) ?_
  refine x_get (k := 282) hE hK hI (by decide) inG4 (e_282 G o _ _) rfl 1 (by decide) mw_156 rfl dX4_solveCut_8 ?_
  refine lv_iload_n hx hb dX4_solveCut_11 rfl (lv_at hl 0 rfl) ?_
  refine lv_iload_n hx hb dX4_solveCut_12 rfl (lv_at hl 0 rfl) ?_
  refine lv_iload_n hx hb dX4_solveCut_13 rfl (lv_at hl 3 rfl) ?_
  refine lv_icmp_ge (tgt := 22) hx hb dX4_solveCut_14 (by decide) (fun q => absurd q (by decide)) (fun _ => ?_)
  refine lv_bipush (v := 10) hx hb dX4_solveCut_17 (by decide) ?_
  refine lv_goto (tgt := 23) hx hb dX4_solveCut_19 (by decide) ?_
  refine x_iast (k := 284) (j := 3) hE hK hI (by decide) (e_284 G o) (by decide) (by decide) rfl dX4_solveCut_23 (fun H locs hI => ?_)
  refine lv_iinc (v := 4) (lv' := [(3, .int 4), (0, .ref (o + 282)), (1, .ref (o + 2)), (2, .int 4)]) hx hb dX4_solveCut_24 hl (k := 0) rfl (by decide) (by decide) rfl (fun ls hl => ?_)
  refine lv_goto (tgt := 2) hx hb dX4_solveCut_27 (by decide) ?_
  refine lv_iload_n hx hb dX4_solveCut_2 rfl (lv_at hl 0 rfl) ?_
  refine lv_iconst (v := 4) hx hb dX4_solveCut_3 (by decide) ?_
  refine lv_icmp_ge (tgt := 30) hx hb dX4_solveCut_4 (by decide) (fun _ => ?_) (fun q => absurd (by decide) q)
  refine lv_aload_n hx hb dX4_solveCut_30 rfl (lv_at hl 1 rfl) ?_
  refine lv_aload_n hx hb dX4_solveCut_31 rfl (lv_at hl 2 rfl) ?_
  refine lv_aload_n hx hb dX4_solveCut_32 rfl (lv_at hl 1 rfl) ?_
  refine x_get (k := 282) hE hK hI (by decide) inG4 (e_282 G o _ _) rfl 1 (by decide) mw_156 rfl dX4_solveCut_33 ?_
  refine x_callVv (k := 282) hE hK hI (c_X4_solve_284 l G o _ _ 10 10 10 10 ((sx_o (by decide)).trans ((sx_o (by decide)).trans ((sx_o (by decide)).trans (sx_e)))) ((sx_o (by decide)).trans ((sx_o (by decide)).trans (sx_e))) ((sx_o (by decide)).trans (sx_e)) sx_e) mf_X4_solve mw_284 (by decide) ((e_282 G o) _ _) rfl rfl hl.1 rfl (Nat.le_of_ble_eq_true rfl) ⟨(Nat.le_of_ble_eq_true rfl), (Nat.le_of_ble_eq_true rfl)⟩ ⟨Nat.zero_le _, Nat.zero_le _⟩ dX4_solveCut_36 (fun H locs hI => ?_)
  exact x_vret hE hr hlocks hI rfl rfl rfl dX4_solveCut_39
set_option maxRecDepth 100000 in
set_option maxHeartbeats 4000000 in
theorem c_X4_sumOfLoads (l : Launch) (G : GG) (o : Nat) (X : SX) (Y : SY) : Ct l yX4_sumOfLoads cX4_sumOfLoads 8 (some .long) 0 0 G o [.ref (o + 282)] X Y (some (.long ((((0 + (Y 283 0)) + (Y 283 1)) + (Y 283 2)) + (Y 283 3)))) X Y := by
  refine Ct.mk (by decide +kernel) (Nat.le_of_ble_eq_true rfl) rfl ?_
  intro p9 e9 s9 m9 args9 below9 meth9 c9 hE hr hlocks hK hI ls hl
  have hx := hE.1
  have hb := hE.2.1
  have hl : lv_has ls 8 [(0, .ref (o + 282))] := hl
  refine lv_lconst (v := 0) hx hb dX4_sumOfLoads_0 (by decide) ?_
  refine lv_lstore_n (lv' := [(1, .long 0), (0, .ref (o + 282))]) hx hb dX4_sumOfLoads_1 rfl hl (by decide) rfl (fun ls hl => ?_)
  refine lv_aload_n hx hb dX4_sumOfLoads_2 rfl (lv_at hl 1 rfl) ?_
  refine x_get (k := 282) hE hK hI (by decide) inG4 (e_282 G o _ _) rfl 0 (by decide) mw_154 rfl dX4_sumOfLoads_3 ?_
  refine lv_astore_n (lv' := [(3, .ref (o + 283)), (1, .long 0), (0, .ref (o + 282))]) hx hb dX4_sumOfLoads_6 rfl hl (by decide) rfl (fun ls hl => ?_)
  refine lv_aload_n hx hb dX4_sumOfLoads_7 rfl (lv_at hl 0 rfl) ?_
  refine x_alen (k := 283) (t0 := 1) (v := 4) hE hK hI (by decide) ((e_283 G o) _ _) rfl rfl dX4_sumOfLoads_8 ?_
  refine lv_istore (lv' := [(4, .int 4), (3, .ref (o + 283)), (1, .long 0), (0, .ref (o + 282))]) hx hb dX4_sumOfLoads_9 hl (by decide) rfl (fun ls hl => ?_)
  refine lv_iconst (v := 0) hx hb dX4_sumOfLoads_11 (by decide) ?_
  refine lv_istore (lv' := [(5, .int 0), (4, .int 4), (3, .ref (o + 283)), (1, .long 0), (0, .ref (o + 282))]) hx hb dX4_sumOfLoads_12 hl (by decide) rfl (fun ls hl => ?_)
  refine lv_iload hx hb dX4_sumOfLoads_14 (lv_at hl 0 rfl) ?_
  refine lv_iload hx hb dX4_sumOfLoads_16 (lv_at hl 1 rfl) ?_
  refine lv_icmp_ge (tgt := 38) hx hb dX4_sumOfLoads_18 (by decide) (fun q => absurd q (by decide)) (fun _ => ?_)
  refine lv_aload_n hx hb dX4_sumOfLoads_21 rfl (lv_at hl 2 rfl) ?_
  refine lv_iload hx hb dX4_sumOfLoads_22 (lv_at hl 0 rfl) ?_
  refine x_lald (k := 283) (j := 0) hE hK hI (by decide) (e_283 G o) (by decide) (by decide) rfl dX4_sumOfLoads_24 ?_
  refine lv_lstore (lv' := [(6, .long (Y 283 0)), (5, .int 0), (4, .int 4), (3, .ref (o + 283)), (1, .long 0), (0, .ref (o + 282))]) hx hb dX4_sumOfLoads_25 hl (by decide) rfl (fun ls hl => ?_)
  refine lv_lload_n hx hb dX4_sumOfLoads_27 rfl (lv_at hl 4 rfl) ?_
  refine lv_lload hx hb dX4_sumOfLoads_28 (lv_at hl 0 rfl) ?_
  refine lv_ladd hx hb dX4_sumOfLoads_30 ?_
  refine lv_lstore_n (lv' := [(1, .long (0 + (Y 283 0))), (6, .long (Y 283 0)), (5, .int 0), (4, .int 4), (3, .ref (o + 283)), (0, .ref (o + 282))]) hx hb dX4_sumOfLoads_31 rfl hl (by decide) rfl (fun ls hl => ?_)
  refine lv_iinc (v := 1) (lv' := [(5, .int 1), (1, .long (0 + (Y 283 0))), (6, .long (Y 283 0)), (4, .int 4), (3, .ref (o + 283)), (0, .ref (o + 282))]) hx hb dX4_sumOfLoads_32 hl (k := 2) rfl (by decide) (by decide) rfl (fun ls hl => ?_)
  refine lv_goto (tgt := 14) hx hb dX4_sumOfLoads_35 (by decide) ?_
  refine lv_iload hx hb dX4_sumOfLoads_14 (lv_at hl 0 rfl) ?_
  refine lv_iload hx hb dX4_sumOfLoads_16 (lv_at hl 3 rfl) ?_
  refine lv_icmp_ge (tgt := 38) hx hb dX4_sumOfLoads_18 (by decide) (fun q => absurd q (by decide)) (fun _ => ?_)
  refine lv_aload_n hx hb dX4_sumOfLoads_21 rfl (lv_at hl 4 rfl) ?_
  refine lv_iload hx hb dX4_sumOfLoads_22 (lv_at hl 0 rfl) ?_
  refine x_lald (k := 283) (j := 1) hE hK hI (by decide) (e_283 G o) (by decide) (by decide) rfl dX4_sumOfLoads_24 ?_
  refine lv_lstore (lv' := [(6, .long (Y 283 1)), (5, .int 1), (1, .long (0 + (Y 283 0))), (4, .int 4), (3, .ref (o + 283)), (0, .ref (o + 282))]) hx hb dX4_sumOfLoads_25 hl (by decide) rfl (fun ls hl => ?_)
  refine lv_lload_n hx hb dX4_sumOfLoads_27 rfl (lv_at hl 2 rfl) ?_
  refine lv_lload hx hb dX4_sumOfLoads_28 (lv_at hl 0 rfl) ?_
  refine lv_ladd hx hb dX4_sumOfLoads_30 ?_
  refine lv_lstore_n (lv' := [(1, .long ((0 + (Y 283 0)) + (Y 283 1))), (6, .long (Y 283 1)), (5, .int 1), (4, .int 4), (3, .ref (o + 283)), (0, .ref (o + 282))]) hx hb dX4_sumOfLoads_31 rfl hl (by decide) rfl (fun ls hl => ?_)
  refine lv_iinc (v := 2) (lv' := [(5, .int 2), (1, .long ((0 + (Y 283 0)) + (Y 283 1))), (6, .long (Y 283 1)), (4, .int 4), (3, .ref (o + 283)), (0, .ref (o + 282))]) hx hb dX4_sumOfLoads_32 hl (k := 2) rfl (by decide) (by decide) rfl (fun ls hl => ?_)
  refine lv_goto (tgt := 14) hx hb dX4_sumOfLoads_35 (by decide) ?_
  refine lv_iload hx hb dX4_sumOfLoads_14 (lv_at hl 0 rfl) ?_
  refine lv_iload hx hb dX4_sumOfLoads_16 (lv_at hl 3 rfl) ?_
  refine lv_icmp_ge (tgt := 38) hx hb dX4_sumOfLoads_18 (by decide) (fun q => absurd q (by decide)) (fun _ => ?_)
  refine lv_aload_n hx hb dX4_sumOfLoads_21 rfl (lv_at hl 4 rfl) ?_
  refine lv_iload hx hb dX4_sumOfLoads_22 (lv_at hl 0 rfl) ?_
  refine x_lald (k := 283) (j := 2) hE hK hI (by decide) (e_283 G o) (by decide) (by decide) rfl dX4_sumOfLoads_24 ?_
  refine lv_lstore (lv' := [(6, .long (Y 283 2)), (5, .int 2), (1, .long ((0 + (Y 283 0)) + (Y 283 1))), (4, .int 4), (3, .ref (o + 283)), (0, .ref (o + 282))]) hx hb dX4_sumOfLoads_25 hl (by decide) rfl (fun ls hl => ?_)
  refine lv_lload_n hx hb dX4_sumOfLoads_27 rfl (lv_at hl 2 rfl) ?_
  refine lv_lload hx hb dX4_sumOfLoads_28 (lv_at hl 0 rfl) ?_
  refine lv_ladd hx hb dX4_sumOfLoads_30 ?_
  refine lv_lstore_n (lv' := [(1, .long (((0 + (Y 283 0)) + (Y 283 1)) + (Y 283 2))), (6, .long (Y 283 2)), (5, .int 2), (4, .int 4), (3, .ref (o + 283)), (0, .ref (o + 282))]) hx hb dX4_sumOfLoads_31 rfl hl (by decide) rfl (fun ls hl => ?_)
  refine lv_iinc (v := 3) (lv' := [(5, .int 3), (1, .long (((0 + (Y 283 0)) + (Y 283 1)) + (Y 283 2))), (6, .long (Y 283 2)), (4, .int 4), (3, .ref (o + 283)), (0, .ref (o + 282))]) hx hb dX4_sumOfLoads_32 hl (k := 2) rfl (by decide) (by decide) rfl (fun ls hl => ?_)
  refine lv_goto (tgt := 14) hx hb dX4_sumOfLoads_35 (by decide) ?_
  refine lv_iload hx hb dX4_sumOfLoads_14 (lv_at hl 0 rfl) ?_
  refine lv_iload hx hb dX4_sumOfLoads_16 (lv_at hl 3 rfl) ?_
  refine lv_icmp_ge (tgt := 38) hx hb dX4_sumOfLoads_18 (by decide) (fun q => absurd q (by decide)) (fun _ => ?_)
  refine lv_aload_n hx hb dX4_sumOfLoads_21 rfl (lv_at hl 4 rfl) ?_
  refine lv_iload hx hb dX4_sumOfLoads_22 (lv_at hl 0 rfl) ?_
  refine x_lald (k := 283) (j := 3) hE hK hI (by decide) (e_283 G o) (by decide) (by decide) rfl dX4_sumOfLoads_24 ?_
  refine lv_lstore (lv' := [(6, .long (Y 283 3)), (5, .int 3), (1, .long (((0 + (Y 283 0)) + (Y 283 1)) + (Y 283 2))), (4, .int 4), (3, .ref (o + 283)), (0, .ref (o + 282))]) hx hb dX4_sumOfLoads_25 hl (by decide) rfl (fun ls hl => ?_)
  refine lv_lload_n hx hb dX4_sumOfLoads_27 rfl (lv_at hl 2 rfl) ?_
  refine lv_lload hx hb dX4_sumOfLoads_28 (lv_at hl 0 rfl) ?_
  refine lv_ladd hx hb dX4_sumOfLoads_30 ?_
  refine lv_lstore_n (lv' := [(1, .long ((((0 + (Y 283 0)) + (Y 283 1)) + (Y 283 2)) + (Y 283 3))), (6, .long (Y 283 3)), (5, .int 3), (4, .int 4), (3, .ref (o + 283)), (0, .ref (o + 282))]) hx hb dX4_sumOfLoads_31 rfl hl (by decide) rfl (fun ls hl => ?_)
  refine lv_iinc (v := 4) (lv' := [(5, .int 4), (1, .long ((((0 + (Y 283 0)) + (Y 283 1)) + (Y 283 2)) + (Y 283 3))), (6, .long (Y 283 3)), (4, .int 4), (3, .ref (o + 283)), (0, .ref (o + 282))]) hx hb dX4_sumOfLoads_32 hl (k := 2) rfl (by decide) (by decide) rfl (fun ls hl => ?_)
  refine lv_goto (tgt := 14) hx hb dX4_sumOfLoads_35 (by decide) ?_
  refine lv_iload hx hb dX4_sumOfLoads_14 (lv_at hl 0 rfl) ?_
  refine lv_iload hx hb dX4_sumOfLoads_16 (lv_at hl 3 rfl) ?_
  refine lv_icmp_ge (tgt := 38) hx hb dX4_sumOfLoads_18 (by decide) (fun _ => ?_) (fun q => absurd (by decide) q)
  refine lv_lload_n hx hb dX4_sumOfLoads_38 rfl (lv_at hl 1 rfl) ?_
  exact x_lret hE hr hlocks hI rfl rfl rfl dX4_sumOfLoads_39
set_option maxRecDepth 100000 in
set_option maxHeartbeats 4000000 in
theorem c_X4_scaledPower (l : Launch) (G : GG) (o : Nat) (X : SX) (Y : SY) : Ct l yX4_scaledPower cX4_scaledPower 5 (some .long) 0 0 G o [.ref (o + 282), .ref (o + 9)] X Y (some (.long ((((0 + (((X 9 0).toInt64) * (Y 283 0))) + (((X 9 1).toInt64) * (Y 283 1))) + (((X 9 2).toInt64) * (Y 283 2))) + (((X 9 3).toInt64) * (Y 283 3))))) X Y := by
  refine Ct.mk (by decide +kernel) (Nat.le_of_ble_eq_true rfl) rfl ?_
  intro p9 e9 s9 m9 args9 below9 meth9 c9 hE hr hlocks hK hI ls hl
  have hx := hE.1
  have hb := hE.2.1
  have hl : lv_has ls 5 [(0, .ref (o + 282)), (1, .ref (o + 9))] := hl
  refine lv_lconst (v := 0) hx hb dX4_scaledPower_0 (by decide) ?_
  refine lv_lstore_n (lv' := [(2, .long 0), (0, .ref (o + 282)), (1, .ref (o + 9))]) hx hb dX4_scaledPower_1 rfl hl (by decide) rfl (fun ls hl => ?_)
  refine lv_iconst (v := 0) hx hb dX4_scaledPower_2 (by decide) ?_
  refine lv_istore (lv' := [(4, .int 0), (2, .long 0), (0, .ref (o + 282)), (1, .ref (o + 9))]) hx hb dX4_scaledPower_3 hl (by decide) rfl (fun ls hl => ?_)
  refine lv_iload hx hb dX4_scaledPower_5 (lv_at hl 0 rfl) ?_
  refine lv_iconst (v := 4) hx hb dX4_scaledPower_7 (by decide) ?_
  refine lv_icmp_ge (tgt := 33) hx hb dX4_scaledPower_8 (by decide) (fun q => absurd q (by decide)) (fun _ => ?_)
  refine lv_lload_n hx hb dX4_scaledPower_11 rfl (lv_at hl 1 rfl) ?_
  refine lv_aload_n hx hb dX4_scaledPower_12 rfl (lv_at hl 3 rfl) ?_
  refine lv_iload hx hb dX4_scaledPower_13 (lv_at hl 0 rfl) ?_
  refine x_iald (k := 9) (j := 0) hE hK hI (by decide) (e_9 G o) (by decide) (by decide) rfl dX4_scaledPower_15 ?_
  refine lv_i2l hx hb dX4_scaledPower_16 rfl ?_
  refine lv_aload_n hx hb dX4_scaledPower_17 rfl (lv_at hl 2 rfl) ?_
  refine x_get (k := 282) hE hK hI (by decide) inG4 (e_282 G o _ _) rfl 0 (by decide) mw_154 rfl dX4_scaledPower_18 ?_
  refine lv_iload hx hb dX4_scaledPower_21 (lv_at hl 0 rfl) ?_
  refine x_lald (k := 283) (j := 0) hE hK hI (by decide) (e_283 G o) (by decide) (by decide) rfl dX4_scaledPower_23 ?_
  refine lv_lmul hx hb dX4_scaledPower_24 ?_
  refine lv_ladd hx hb dX4_scaledPower_25 ?_
  refine lv_lstore_n (lv' := [(2, .long (0 + (((X 9 0).toInt64) * (Y 283 0)))), (4, .int 0), (0, .ref (o + 282)), (1, .ref (o + 9))]) hx hb dX4_scaledPower_26 rfl hl (by decide) rfl (fun ls hl => ?_)
  refine lv_iinc (v := 1) (lv' := [(4, .int 1), (2, .long (0 + (((X 9 0).toInt64) * (Y 283 0)))), (0, .ref (o + 282)), (1, .ref (o + 9))]) hx hb dX4_scaledPower_27 hl (k := 1) rfl (by decide) (by decide) rfl (fun ls hl => ?_)
  refine lv_goto (tgt := 5) hx hb dX4_scaledPower_30 (by decide) ?_
  refine lv_iload hx hb dX4_scaledPower_5 (lv_at hl 0 rfl) ?_
  refine lv_iconst (v := 4) hx hb dX4_scaledPower_7 (by decide) ?_
  refine lv_icmp_ge (tgt := 33) hx hb dX4_scaledPower_8 (by decide) (fun q => absurd q (by decide)) (fun _ => ?_)
  refine lv_lload_n hx hb dX4_scaledPower_11 rfl (lv_at hl 1 rfl) ?_
  refine lv_aload_n hx hb dX4_scaledPower_12 rfl (lv_at hl 3 rfl) ?_
  refine lv_iload hx hb dX4_scaledPower_13 (lv_at hl 0 rfl) ?_
  refine x_iald (k := 9) (j := 1) hE hK hI (by decide) (e_9 G o) (by decide) (by decide) rfl dX4_scaledPower_15 ?_
  refine lv_i2l hx hb dX4_scaledPower_16 rfl ?_
  refine lv_aload_n hx hb dX4_scaledPower_17 rfl (lv_at hl 2 rfl) ?_
  refine x_get (k := 282) hE hK hI (by decide) inG4 (e_282 G o _ _) rfl 0 (by decide) mw_154 rfl dX4_scaledPower_18 ?_
  refine lv_iload hx hb dX4_scaledPower_21 (lv_at hl 0 rfl) ?_
  refine x_lald (k := 283) (j := 1) hE hK hI (by decide) (e_283 G o) (by decide) (by decide) rfl dX4_scaledPower_23 ?_
  refine lv_lmul hx hb dX4_scaledPower_24 ?_
  refine lv_ladd hx hb dX4_scaledPower_25 ?_
  refine lv_lstore_n (lv' := [(2, .long ((0 + (((X 9 0).toInt64) * (Y 283 0))) + (((X 9 1).toInt64) * (Y 283 1)))), (4, .int 1), (0, .ref (o + 282)), (1, .ref (o + 9))]) hx hb dX4_scaledPower_26 rfl hl (by decide) rfl (fun ls hl => ?_)
  refine lv_iinc (v := 2) (lv' := [(4, .int 2), (2, .long ((0 + (((X 9 0).toInt64) * (Y 283 0))) + (((X 9 1).toInt64) * (Y 283 1)))), (0, .ref (o + 282)), (1, .ref (o + 9))]) hx hb dX4_scaledPower_27 hl (k := 1) rfl (by decide) (by decide) rfl (fun ls hl => ?_)
  refine lv_goto (tgt := 5) hx hb dX4_scaledPower_30 (by decide) ?_
  refine lv_iload hx hb dX4_scaledPower_5 (lv_at hl 0 rfl) ?_
  refine lv_iconst (v := 4) hx hb dX4_scaledPower_7 (by decide) ?_
  refine lv_icmp_ge (tgt := 33) hx hb dX4_scaledPower_8 (by decide) (fun q => absurd q (by decide)) (fun _ => ?_)
  refine lv_lload_n hx hb dX4_scaledPower_11 rfl (lv_at hl 1 rfl) ?_
  refine lv_aload_n hx hb dX4_scaledPower_12 rfl (lv_at hl 3 rfl) ?_
  refine lv_iload hx hb dX4_scaledPower_13 (lv_at hl 0 rfl) ?_
  refine x_iald (k := 9) (j := 2) hE hK hI (by decide) (e_9 G o) (by decide) (by decide) rfl dX4_scaledPower_15 ?_
  refine lv_i2l hx hb dX4_scaledPower_16 rfl ?_
  refine lv_aload_n hx hb dX4_scaledPower_17 rfl (lv_at hl 2 rfl) ?_
  refine x_get (k := 282) hE hK hI (by decide) inG4 (e_282 G o _ _) rfl 0 (by decide) mw_154 rfl dX4_scaledPower_18 ?_
  refine lv_iload hx hb dX4_scaledPower_21 (lv_at hl 0 rfl) ?_
  refine x_lald (k := 283) (j := 2) hE hK hI (by decide) (e_283 G o) (by decide) (by decide) rfl dX4_scaledPower_23 ?_
  refine lv_lmul hx hb dX4_scaledPower_24 ?_
  refine lv_ladd hx hb dX4_scaledPower_25 ?_
  refine lv_lstore_n (lv' := [(2, .long (((0 + (((X 9 0).toInt64) * (Y 283 0))) + (((X 9 1).toInt64) * (Y 283 1))) + (((X 9 2).toInt64) * (Y 283 2)))), (4, .int 2), (0, .ref (o + 282)), (1, .ref (o + 9))]) hx hb dX4_scaledPower_26 rfl hl (by decide) rfl (fun ls hl => ?_)
  refine lv_iinc (v := 3) (lv' := [(4, .int 3), (2, .long (((0 + (((X 9 0).toInt64) * (Y 283 0))) + (((X 9 1).toInt64) * (Y 283 1))) + (((X 9 2).toInt64) * (Y 283 2)))), (0, .ref (o + 282)), (1, .ref (o + 9))]) hx hb dX4_scaledPower_27 hl (k := 1) rfl (by decide) (by decide) rfl (fun ls hl => ?_)
  refine lv_goto (tgt := 5) hx hb dX4_scaledPower_30 (by decide) ?_
  refine lv_iload hx hb dX4_scaledPower_5 (lv_at hl 0 rfl) ?_
  refine lv_iconst (v := 4) hx hb dX4_scaledPower_7 (by decide) ?_
  refine lv_icmp_ge (tgt := 33) hx hb dX4_scaledPower_8 (by decide) (fun q => absurd q (by decide)) (fun _ => ?_)
  refine lv_lload_n hx hb dX4_scaledPower_11 rfl (lv_at hl 1 rfl) ?_
  refine lv_aload_n hx hb dX4_scaledPower_12 rfl (lv_at hl 3 rfl) ?_
  refine lv_iload hx hb dX4_scaledPower_13 (lv_at hl 0 rfl) ?_
  refine x_iald (k := 9) (j := 3) hE hK hI (by decide) (e_9 G o) (by decide) (by decide) rfl dX4_scaledPower_15 ?_
  refine lv_i2l hx hb dX4_scaledPower_16 rfl ?_
  refine lv_aload_n hx hb dX4_scaledPower_17 rfl (lv_at hl 2 rfl) ?_
  refine x_get (k := 282) hE hK hI (by decide) inG4 (e_282 G o _ _) rfl 0 (by decide) mw_154 rfl dX4_scaledPower_18 ?_
  refine lv_iload hx hb dX4_scaledPower_21 (lv_at hl 0 rfl) ?_
  refine x_lald (k := 283) (j := 3) hE hK hI (by decide) (e_283 G o) (by decide) (by decide) rfl dX4_scaledPower_23 ?_
  refine lv_lmul hx hb dX4_scaledPower_24 ?_
  refine lv_ladd hx hb dX4_scaledPower_25 ?_
  refine lv_lstore_n (lv' := [(2, .long ((((0 + (((X 9 0).toInt64) * (Y 283 0))) + (((X 9 1).toInt64) * (Y 283 1))) + (((X 9 2).toInt64) * (Y 283 2))) + (((X 9 3).toInt64) * (Y 283 3)))), (4, .int 3), (0, .ref (o + 282)), (1, .ref (o + 9))]) hx hb dX4_scaledPower_26 rfl hl (by decide) rfl (fun ls hl => ?_)
  refine lv_iinc (v := 4) (lv' := [(4, .int 4), (2, .long ((((0 + (((X 9 0).toInt64) * (Y 283 0))) + (((X 9 1).toInt64) * (Y 283 1))) + (((X 9 2).toInt64) * (Y 283 2))) + (((X 9 3).toInt64) * (Y 283 3)))), (0, .ref (o + 282)), (1, .ref (o + 9))]) hx hb dX4_scaledPower_27 hl (k := 1) rfl (by decide) (by decide) rfl (fun ls hl => ?_)
  refine lv_goto (tgt := 5) hx hb dX4_scaledPower_30 (by decide) ?_
  refine lv_iload hx hb dX4_scaledPower_5 (lv_at hl 0 rfl) ?_
  refine lv_iconst (v := 4) hx hb dX4_scaledPower_7 (by decide) ?_
  refine lv_icmp_ge (tgt := 33) hx hb dX4_scaledPower_8 (by decide) (fun _ => ?_) (fun q => absurd (by decide) q)
  refine lv_lload_n hx hb dX4_scaledPower_33 rfl (lv_at hl 1 rfl) ?_
  exact x_lret hE hr hlocks hI rfl rfl rfl dX4_scaledPower_34
set_option maxRecDepth 100000 in
set_option maxHeartbeats 4000000 in
theorem lp_X5_commonDivisor (l : Launch) (G : GG) (o : Nat) (X : SX) (Y : SY) (a0 : Int64) (b0 : Int64) {p9 : Program} {e9 : Env} {s9 : State} {m9 : MethodId} {args9 : Array Value} {below9 : List Frame} {meth9 : Method} {c9 : Code} (hE : gE p9 m9 c9 cX5_commonDivisor 11 s9 args9 yX5_commonDivisor.cls) (hr : meth9.sig.returnType = (some .long)) (hlocks : meth9.locks = false) (hK : KK G s9) :
    ∀ (n : Nat) (i : Nat) (a : Int64) (b : Int64), i + n = 100 → ∀ (H : Heap) (locs : List Loc), In G o X Y s9.heap H locs → ∀ ls : Array Slot, lv_has ls 11 [(0, .long a0), (2, .long b0), (4, .long a), (6, .long b), (8, .int (nI i))] → W p9 l e9 (Rm 0 0) s9 m9 args9 below9 meth9 c9 H locs 0 0 (MQ below9 (Qw G o (some (.long (gcdL n a b))) X Y) args9 s9 0 0 (rg o)) (F0 m9 9 ls []) := by
  have hx := hE.1
  have hb := hE.2.1
  intro n
  induction n with
  | zero =>
    intro i a b hi H locs hI ls hl
    refine lv_iload hx hb dX5_commonDivisor_9 (lv_at hl 4 rfl) ?_
    refine lv_bipush (v := 100) hx hb dX5_commonDivisor_11 (by decide) ?_
    refine lv_icmp_ge (tgt := 44) hx hb dX5_commonDivisor_13 (by decide) (fun _ => ?_) (fun q => absurd (nI_le (a := 100) (by omega) (by omega)) q)
    refine lv_lload hx hb dX5_commonDivisor_44 (lv_at hl 2 rfl) ?_
    exact x_lret hE hr hlocks hI rfl rfl rfl dX5_commonDivisor_46
  | succ n ih =>
    intro i a b hi H locs hI ls hl
    refine lv_iload hx hb dX5_commonDivisor_9 (lv_at hl 4 rfl) ?_
    refine lv_bipush (v := 100) hx hb dX5_commonDivisor_11 (by decide) ?_
    refine lv_icmp_ge (tgt := 44) hx hb dX5_commonDivisor_13 (by decide) (fun q => absurd q (nI_ge (b := 100) (by omega) (by omega))) (fun _ => ?_)
    refine lv_lload hx hb dX5_commonDivisor_16 (lv_at hl 3 rfl) ?_
    refine lv_lconst (v := 0) hx hb dX5_commonDivisor_18 (by decide) ?_
    refine W.lcmp hx hb dX5_commonDivisor_19 ?_
    refine lv_if_eq (tgt := 44) hx hb dX5_commonDivisor_20 (by decide) (fun c1 => ?_) (fun c1 => ?_)
    · have c1 := (lg_cmp_eq _ _).mp c1
      refine lv_lload hx hb dX5_commonDivisor_44 (lv_at hl 2 rfl) ?_
      exact x_lret hE hr hlocks hI (congrArg (fun q => some (Value.long q)) (if_pos c1)) rfl rfl dX5_commonDivisor_46
    · have c1 := mt (lg_cmp_eq _ _).mpr c1
      refine lv_lload hx hb dX5_commonDivisor_23 (lv_at hl 2 rfl) ?_
      refine lv_lload hx hb dX5_commonDivisor_25 (lv_at hl 3 rfl) ?_
      refine lv_lrem hx hb dX5_commonDivisor_27 c1 ?_
      refine lv_lstore (lv' := [(9, .long (a - a / b * b)), (0, .long a0), (2, .long b0), (4, .long a), (6, .long b), (8, .int (nI i))]) hx hb dX5_commonDivisor_28 hl (by decide) rfl (fun ls hl => ?_)
      refine lv_lload hx hb dX5_commonDivisor_30 (lv_at hl 4 rfl) ?_
      refine lv_lstore (lv' := [(4, .long b), (9, .long (a - a / b * b)), (0, .long a0), (2, .long b0), (6, .long b), (8, .int (nI i))]) hx hb dX5_commonDivisor_32 hl (by decide) rfl (fun ls hl => ?_)
      refine lv_lload hx hb dX5_commonDivisor_34 (lv_at hl 1 rfl) ?_
      refine lv_lstore (lv' := [(6, .long (a - a / b * b)), (4, .long b), (9, .long (a - a / b * b)), (0, .long a0), (2, .long b0), (8, .int (nI i))]) hx hb dX5_commonDivisor_36 hl (by decide) rfl (fun ls hl => ?_)
      refine lv_iinc (v := nI (i + 1)) (lv' := [(8, .int (nI (i + 1))), (6, .long (a - a / b * b)), (4, .long b), (9, .long (a - a / b * b)), (0, .long a0), (2, .long b0)]) hx hb dX5_commonDivisor_38 hl (k := 5) rfl (nI_add i 1) (by decide) rfl (fun ls hl => ?_)
      refine lv_goto (tgt := 9) hx hb dX5_commonDivisor_41 (by decide) ?_
      have ih' := ih (i + 1) b (a - a / b * b) (by omega) H locs hI ls (lv_sub hl [4, 5, 2, 1, 0] rfl)
      rw [← show gcdL (n + 1) a b = gcdL n b (a - a / b * b) from if_neg c1] at ih'
      exact ih'
set_option maxRecDepth 100000 in
set_option maxHeartbeats 4000000 in
theorem c_X5_commonDivisor (l : Launch) (G : GG) (o : Nat) (X : SX) (Y : SY) (a0 : Int64) (b0 : Int64) : Ct l yX5_commonDivisor cX5_commonDivisor 11 (some .long) 0 0 G o [.long a0, .long b0] X Y (some (.long (gcdL 100 a0 b0))) X Y := by
  refine Ct.mk (by decide +kernel) (Nat.le_of_ble_eq_true rfl) rfl ?_
  intro p9 e9 s9 m9 args9 below9 meth9 c9 hE hr hlocks hK hI ls hl
  have hx := hE.1
  have hb := hE.2.1
  have hl : lv_has ls 11 [(0, .long a0), (2, .long b0)] := hl
  refine lv_lload_n hx hb dX5_commonDivisor_0 rfl (lv_at hl 0 rfl) ?_
  refine lv_lstore (lv' := [(4, .long a0), (0, .long a0), (2, .long b0)]) hx hb dX5_commonDivisor_1 hl (by decide) rfl (fun ls hl => ?_)
  refine lv_lload_n hx hb dX5_commonDivisor_3 rfl (lv_at hl 2 rfl) ?_
  refine lv_lstore (lv' := [(6, .long b0), (4, .long a0), (0, .long a0), (2, .long b0)]) hx hb dX5_commonDivisor_4 hl (by decide) rfl (fun ls hl => ?_)
  refine lv_iconst (v := 0) hx hb dX5_commonDivisor_6 (by decide) ?_
  refine lv_istore (lv' := [(8, .int 0), (6, .long b0), (4, .long a0), (0, .long a0), (2, .long b0)]) hx hb dX5_commonDivisor_7 hl (by decide) rfl (fun ls hl => ?_)
  exact lp_X5_commonDivisor l G o X Y a0 b0 hE hr hlocks hK 100 0 a0 b0 (by omega) _ _ hI ls (lv_sub hl [3, 4, 2, 1, 0] rfl)
set_option maxRecDepth 100000 in
set_option maxHeartbeats 4000000 in
theorem c_X5_partOf_0 (l : Launch) (G : GG) (o : Nat) (X : SX) (Y : SY) (a0 : Int64) (b0 : Int64) (hg : ¬ (gcdL 100 a0 b0 = 0)) : Ct l yX5_partOf cX5_partOf 7 (some .long) 1 30 G o [.long a0, .long b0, .int 0] X Y (some (.long (a0 / (gcdL 100 a0 b0)))) X Y := by
  refine Ct.mk (by decide +kernel) (Nat.le_of_ble_eq_true rfl) rfl ?_
  intro p9 e9 s9 m9 args9 below9 meth9 c9 hE hr hlocks hK hI ls hl
  have hx := hE.1
  have hb := hE.2.1
  have hl : lv_has ls 7 [(0, .long a0), (2, .long b0), (4, .int 0)] := hl
  refine lv_lload_n hx hb dX5_partOf_0 rfl (lv_at hl 0 rfl) ?_
  refine lv_lload_n hx hb dX5_partOf_1 rfl (lv_at hl 1 rfl) ?_
  refine x_callSl hE hK hI (c_X5_commonDivisor l G o _ _ a0 b0 ) mf_X5_commonDivisor mw_247 rfl hl.1 rfl (Nat.le_of_ble_eq_true rfl) ⟨(Nat.le_of_ble_eq_true rfl), (Nat.le_of_ble_eq_true rfl)⟩ ⟨Nat.zero_le _, Nat.zero_le _⟩ dX5_partOf_2 (fun H locs hI => ?_)
  refine lv_lstore (lv' := [(5, .long (gcdL 100 a0 b0)), (0, .long a0), (2, .long b0), (4, .int 0)]) hx hb dX5_partOf_5 hl (by decide) rfl (fun ls hl => ?_)
  refine lv_iload hx hb dX5_partOf_7 (lv_at hl 3 rfl) ?_
  refine lv_if_ne (tgt := 16) hx hb dX5_partOf_9 (by decide) (fun q => absurd (by decide) q) (fun _ => ?_)
  refine lv_lload_n hx hb dX5_partOf_12 rfl (lv_at hl 1 rfl) ?_
  refine lv_goto (tgt := 17) hx hb dX5_partOf_13 (by decide) ?_
  refine lv_lload hx hb dX5_partOf_17 (lv_at hl 0 rfl) ?_
  refine lv_ldiv hx hb dX5_partOf_19 hg ?_
  exact x_lret hE hr hlocks hI rfl rfl rfl dX5_partOf_20
set_option maxRecDepth 100000 in
set_option maxHeartbeats 4000000 in
theorem c_X5_partOf_1 (l : Launch) (G : GG) (o : Nat) (X : SX) (Y : SY) (a0 : Int64) (b0 : Int64) (hg : ¬ (gcdL 100 a0 b0 = 0)) : Ct l yX5_partOf cX5_partOf 7 (some .long) 1 30 G o [.long a0, .long b0, .int 1] X Y (some (.long (b0 / (gcdL 100 a0 b0)))) X Y := by
  refine Ct.mk (by decide +kernel) (Nat.le_of_ble_eq_true rfl) rfl ?_
  intro p9 e9 s9 m9 args9 below9 meth9 c9 hE hr hlocks hK hI ls hl
  have hx := hE.1
  have hb := hE.2.1
  have hl : lv_has ls 7 [(0, .long a0), (2, .long b0), (4, .int 1)] := hl
  refine lv_lload_n hx hb dX5_partOf_0 rfl (lv_at hl 0 rfl) ?_
  refine lv_lload_n hx hb dX5_partOf_1 rfl (lv_at hl 1 rfl) ?_
  refine x_callSl hE hK hI (c_X5_commonDivisor l G o _ _ a0 b0 ) mf_X5_commonDivisor mw_247 rfl hl.1 rfl (Nat.le_of_ble_eq_true rfl) ⟨(Nat.le_of_ble_eq_true rfl), (Nat.le_of_ble_eq_true rfl)⟩ ⟨Nat.zero_le _, Nat.zero_le _⟩ dX5_partOf_2 (fun H locs hI => ?_)
  refine lv_lstore (lv' := [(5, .long (gcdL 100 a0 b0)), (0, .long a0), (2, .long b0), (4, .int 1)]) hx hb dX5_partOf_5 hl (by decide) rfl (fun ls hl => ?_)
  refine lv_iload hx hb dX5_partOf_7 (lv_at hl 3 rfl) ?_
  refine lv_if_ne (tgt := 16) hx hb dX5_partOf_9 (by decide) (fun _ => ?_) (fun q => absurd q (by decide))
  refine lv_lload_n hx hb dX5_partOf_16 rfl (lv_at hl 2 rfl) ?_
  refine lv_lload hx hb dX5_partOf_17 (lv_at hl 0 rfl) ?_
  refine lv_ldiv hx hb dX5_partOf_19 hg ?_
  exact x_lret hE hr hlocks hI rfl rfl rfl dX5_partOf_20
set_option maxRecDepth 100000 in
set_option maxHeartbeats 4000000 in
theorem lp_X6_part_0 (l : Launch) (G : GG) (o : Nat) (X : SX) (Y : SY) (a0 : Int64) (b0 : Int64) {p9 : Program} {e9 : Env} {s9 : State} {m9 : MethodId} {args9 : Array Value} {below9 : List Frame} {meth9 : Method} {c9 : Code} (hE : gE p9 m9 c9 cX6_part 11 s9 args9 yX6_part.cls) (hr : meth9.sig.returnType = (some .long)) (hlocks : meth9.locks = false) (hK : KK G s9) :
    ∀ (n : Nat) (a : Int64) (b : Int64), gok n a b → ¬ gcdL n a b = 0 → ∀ (H : Heap) (locs : List Loc), In G o X Y s9.heap H locs → ∀ ls : Array Slot, lv_has ls 11 [(0, .long a0), (2, .long b0), (4, .int 0), (5, .long a), (7, .long b)] → W p9 l e9 (Rm 0 0) s9 m9 args9 below9 meth9 c9 H locs 0 0 (MQ below9 (Qw G o (some (.long (a0 / gcdL n a b))) X Y) args9 s9 0 0 (rg o)) (F0 m9 17 ls []) := by
  have hx := hE.1
  have hb := hE.2.1
  intro n
  induction n with
  | zero =>
    intro a b hi hnz H locs hI ls hl
    have hb0 : b = 0 := hi
    have hnz : ¬ a = 0 := hnz
    refine lv_lload hx hb dX6_part_17 (lv_at hl 4 rfl) ?_
    refine lv_lconst (v := 0) hx hb dX6_part_19 (by decide) ?_
    refine W.lcmp hx hb dX6_part_20 ?_
    refine lv_if_eq (tgt := 42) hx hb dX6_part_21 (by decide) (fun _ => ?_) (fun q => absurd ((lg_cmp_eq _ _).mpr hb0) q)
    refine lv_iload hx hb dX6_part_42 (lv_at hl 2 rfl) ?_
    refine lv_if_ne (tgt := 54) hx hb dX6_part_44 (by decide) (fun q => absurd (by decide) q) (fun _ => ?_)
    refine lv_lload_n hx hb dX6_part_47 rfl (lv_at hl 0 rfl) ?_
    refine lv_lload hx hb dX6_part_48 (lv_at hl 3 rfl) ?_
    refine lv_ldiv hx hb dX6_part_50 hnz ?_
    refine lv_goto (tgt := 58) hx hb dX6_part_51 (by decide) ?_
    exact x_lret hE hr hlocks hI rfl rfl rfl dX6_part_58
  | succ n ih =>
    intro a b hi hnz H locs hI ls hl
    refine lv_lload hx hb dX6_part_17 (lv_at hl 4 rfl) ?_
    refine lv_lconst (v := 0) hx hb dX6_part_19 (by decide) ?_
    refine W.lcmp hx hb dX6_part_20 ?_
    refine lv_if_eq (tgt := 42) hx hb dX6_part_21 (by decide) (fun c1 => ?_) (fun c1 => ?_)
    · have c1 := (lg_cmp_eq _ _).mp c1
      refine lv_iload hx hb dX6_part_42 (lv_at hl 2 rfl) ?_
      refine lv_if_ne (tgt := 54) hx hb dX6_part_44 (by decide) (fun q => absurd (by decide) q) (fun _ => ?_)
      refine lv_lload_n hx hb dX6_part_47 rfl (lv_at hl 0 rfl) ?_
      refine lv_lload hx hb dX6_part_48 (lv_at hl 3 rfl) ?_
      refine lv_ldiv hx hb dX6_part_50 (fun q => hnz ((if_pos c1).trans q)) ?_
      refine lv_goto (tgt := 58) hx hb dX6_part_51 (by decide) ?_
      exact x_lret hE hr hlocks hI (congrArg (fun q => some (Value.long (a0 / q))) (if_pos c1)) rfl rfl dX6_part_58
    · have c1 := mt (lg_cmp_eq _ _).mpr c1
      refine lv_lload hx hb dX6_part_24 (lv_at hl 3 rfl) ?_
      refine lv_lload hx hb dX6_part_26 (lv_at hl 4 rfl) ?_
      refine lv_lrem hx hb dX6_part_28 c1 ?_
      refine lv_lstore (lv' := [(9, .long (a - a / b * b)), (0, .long a0), (2, .long b0), (4, .int 0), (5, .long a), (7, .long b)]) hx hb dX6_part_29 hl (by decide) rfl (fun ls hl => ?_)
      refine lv_lload hx hb dX6_part_31 (lv_at hl 5 rfl) ?_
      refine lv_lstore (lv' := [(5, .long b), (9, .long (a - a / b * b)), (0, .long a0), (2, .long b0), (4, .int 0), (7, .long b)]) hx hb dX6_part_33 hl (by decide) rfl (fun ls hl => ?_)
      refine lv_lload hx hb dX6_part_35 (lv_at hl 1 rfl) ?_
      refine lv_lstore (lv' := [(7, .long (a - a / b * b)), (5, .long b), (9, .long (a - a / b * b)), (0, .long a0), (2, .long b0), (4, .int 0)]) hx hb dX6_part_37 hl (by decide) rfl (fun ls hl => ?_)
      refine lv_goto (tgt := 17) hx hb dX6_part_39 (by decide) ?_
      have hg2 : gcdL (n + 1) a b = gcdL n b (a - a / b * b) := if_neg c1
      have ih' := ih b (a - a / b * b) (hi.resolve_left c1) (hg2 ▸ hnz) H locs hI ls (lv_sub hl [3, 4, 5, 1, 0] rfl)
      rw [← hg2] at ih'
      exact ih'
set_option maxRecDepth 100000 in
set_option maxHeartbeats 4000000 in
theorem c_X6_part_0 (l : Launch) (G : GG) (o : Nat) (X : SX) (Y : SY) (a0 : Int64) (b0 : Int64) (h0 : 0 ≤ a0) (hk : gok 100 a0 b0) (hg : ¬ (gcdL 100 a0 b0 = 0)) : Ct l yX6_part cX6_part 11 (some .long) 0 0 G o [.long a0, .long b0, .int 0] X Y (some (.long (a0 / gcdL 100 a0 b0))) X Y := by
  refine Ct.mk (by decide +kernel) (Nat.le_of_ble_eq_true rfl) rfl ?_
  intro p9 e9 s9 m9 args9 below9 meth9 c9 hE hr hlocks hK hI ls hl
  have hx := hE.1
  have hb := hE.2.1
  have hl : lv_has ls 11 [(0, .long a0), (2, .long b0), (4, .int 0)] := hl
  refine lv_lload_n hx hb dX6_part_0 rfl (lv_at hl 0 rfl) ?_
  refine lv_lconst (v := 0) hx hb dX6_part_1 (by decide) ?_
  refine W.lcmp hx hb dX6_part_2 ?_
  refine lv_if_ge (tgt := 11) hx hb dX6_part_3 (by decide) (fun _ => ?_) (fun q => absurd ((lg_cmp_ge _ _).mpr h0) q)
  refine lv_lload_n hx hb dX6_part_11 rfl (lv_at hl 0 rfl) ?_
  refine lv_lstore (lv' := [(5, .long a0), (0, .long a0), (2, .long b0), (4, .int 0)]) hx hb dX6_part_12 hl (by decide) rfl (fun ls hl => ?_)
  refine lv_lload_n hx hb dX6_part_14 rfl (lv_at hl 2 rfl) ?_
  refine lv_lstore (lv' := [(7, .long b0), (5, .long a0), (0, .long a0), (2, .long b0), (4, .int 0)]) hx hb dX6_part_15 hl (by decide) rfl (fun ls hl => ?_)
  exact lp_X6_part_0 l G o X Y a0 b0 hE hr hlocks hK 100 a0 b0 hk hg _ _ hI ls (lv_sub hl [2, 3, 4, 1, 0] rfl)
set_option maxRecDepth 100000 in
set_option maxHeartbeats 4000000 in
theorem lp_X6_part_1 (l : Launch) (G : GG) (o : Nat) (X : SX) (Y : SY) (a0 : Int64) (b0 : Int64) {p9 : Program} {e9 : Env} {s9 : State} {m9 : MethodId} {args9 : Array Value} {below9 : List Frame} {meth9 : Method} {c9 : Code} (hE : gE p9 m9 c9 cX6_part 11 s9 args9 yX6_part.cls) (hr : meth9.sig.returnType = (some .long)) (hlocks : meth9.locks = false) (hK : KK G s9) :
    ∀ (n : Nat) (a : Int64) (b : Int64), gok n a b → ¬ gcdL n a b = 0 → ∀ (H : Heap) (locs : List Loc), In G o X Y s9.heap H locs → ∀ ls : Array Slot, lv_has ls 11 [(0, .long a0), (2, .long b0), (4, .int 1), (5, .long a), (7, .long b)] → W p9 l e9 (Rm 0 0) s9 m9 args9 below9 meth9 c9 H locs 0 0 (MQ below9 (Qw G o (some (.long (b0 / gcdL n a b))) X Y) args9 s9 0 0 (rg o)) (F0 m9 17 ls []) := by
  have hx := hE.1
  have hb := hE.2.1
  intro n
  induction n with
  | zero =>
    intro a b hi hnz H locs hI ls hl
    have hb0 : b = 0 := hi
    have hnz : ¬ a = 0 := hnz
    refine lv_lload hx hb dX6_part_17 (lv_at hl 4 rfl) ?_
    refine lv_lconst (v := 0) hx hb dX6_part_19 (by decide) ?_
    refine W.lcmp hx hb dX6_part_20 ?_
    refine lv_if_eq (tgt := 42) hx hb dX6_part_21 (by decide) (fun _ => ?_) (fun q => absurd ((lg_cmp_eq _ _).mpr hb0) q)
    refine lv_iload hx hb dX6_part_42 (lv_at hl 2 rfl) ?_
    refine lv_if_ne (tgt := 54) hx hb dX6_part_44 (by decide) (fun _ => ?_) (fun q => absurd q (by decide))
    refine lv_lload_n hx hb dX6_part_54 rfl (lv_at hl 1 rfl) ?_
    refine lv_lload hx hb dX6_part_55 (lv_at hl 3 rfl) ?_
    refine lv_ldiv hx hb dX6_part_57 hnz ?_
    exact x_lret hE hr hlocks hI rfl rfl rfl dX6_part_58
  | succ n ih =>
    intro a b hi hnz H locs hI ls hl
    refine lv_lload hx hb dX6_part_17 (lv_at hl 4 rfl) ?_
    refine lv_lconst (v := 0) hx hb dX6_part_19 (by decide) ?_
    refine W.lcmp hx hb dX6_part_20 ?_
    refine lv_if_eq (tgt := 42) hx hb dX6_part_21 (by decide) (fun c1 => ?_) (fun c1 => ?_)
    · have c1 := (lg_cmp_eq _ _).mp c1
      refine lv_iload hx hb dX6_part_42 (lv_at hl 2 rfl) ?_
      refine lv_if_ne (tgt := 54) hx hb dX6_part_44 (by decide) (fun _ => ?_) (fun q => absurd q (by decide))
      refine lv_lload_n hx hb dX6_part_54 rfl (lv_at hl 1 rfl) ?_
      refine lv_lload hx hb dX6_part_55 (lv_at hl 3 rfl) ?_
      refine lv_ldiv hx hb dX6_part_57 (fun q => hnz ((if_pos c1).trans q)) ?_
      exact x_lret hE hr hlocks hI (congrArg (fun q => some (Value.long (b0 / q))) (if_pos c1)) rfl rfl dX6_part_58
    · have c1 := mt (lg_cmp_eq _ _).mpr c1
      refine lv_lload hx hb dX6_part_24 (lv_at hl 3 rfl) ?_
      refine lv_lload hx hb dX6_part_26 (lv_at hl 4 rfl) ?_
      refine lv_lrem hx hb dX6_part_28 c1 ?_
      refine lv_lstore (lv' := [(9, .long (a - a / b * b)), (0, .long a0), (2, .long b0), (4, .int 1), (5, .long a), (7, .long b)]) hx hb dX6_part_29 hl (by decide) rfl (fun ls hl => ?_)
      refine lv_lload hx hb dX6_part_31 (lv_at hl 5 rfl) ?_
      refine lv_lstore (lv' := [(5, .long b), (9, .long (a - a / b * b)), (0, .long a0), (2, .long b0), (4, .int 1), (7, .long b)]) hx hb dX6_part_33 hl (by decide) rfl (fun ls hl => ?_)
      refine lv_lload hx hb dX6_part_35 (lv_at hl 1 rfl) ?_
      refine lv_lstore (lv' := [(7, .long (a - a / b * b)), (5, .long b), (9, .long (a - a / b * b)), (0, .long a0), (2, .long b0), (4, .int 1)]) hx hb dX6_part_37 hl (by decide) rfl (fun ls hl => ?_)
      refine lv_goto (tgt := 17) hx hb dX6_part_39 (by decide) ?_
      have hg2 : gcdL (n + 1) a b = gcdL n b (a - a / b * b) := if_neg c1
      have ih' := ih b (a - a / b * b) (hi.resolve_left c1) (hg2 ▸ hnz) H locs hI ls (lv_sub hl [3, 4, 5, 1, 0] rfl)
      rw [← hg2] at ih'
      exact ih'
set_option maxRecDepth 100000 in
set_option maxHeartbeats 4000000 in
theorem c_X6_part_1 (l : Launch) (G : GG) (o : Nat) (X : SX) (Y : SY) (a0 : Int64) (b0 : Int64) (h0 : 0 ≤ a0) (hk : gok 100 a0 b0) (hg : ¬ (gcdL 100 a0 b0 = 0)) : Ct l yX6_part cX6_part 11 (some .long) 0 0 G o [.long a0, .long b0, .int 1] X Y (some (.long (b0 / gcdL 100 a0 b0))) X Y := by
  refine Ct.mk (by decide +kernel) (Nat.le_of_ble_eq_true rfl) rfl ?_
  intro p9 e9 s9 m9 args9 below9 meth9 c9 hE hr hlocks hK hI ls hl
  have hx := hE.1
  have hb := hE.2.1
  have hl : lv_has ls 11 [(0, .long a0), (2, .long b0), (4, .int 1)] := hl
  refine lv_lload_n hx hb dX6_part_0 rfl (lv_at hl 0 rfl) ?_
  refine lv_lconst (v := 0) hx hb dX6_part_1 (by decide) ?_
  refine W.lcmp hx hb dX6_part_2 ?_
  refine lv_if_ge (tgt := 11) hx hb dX6_part_3 (by decide) (fun _ => ?_) (fun q => absurd ((lg_cmp_ge _ _).mpr h0) q)
  refine lv_lload_n hx hb dX6_part_11 rfl (lv_at hl 0 rfl) ?_
  refine lv_lstore (lv' := [(5, .long a0), (0, .long a0), (2, .long b0), (4, .int 1)]) hx hb dX6_part_12 hl (by decide) rfl (fun ls hl => ?_)
  refine lv_lload_n hx hb dX6_part_14 rfl (lv_at hl 2 rfl) ?_
  refine lv_lstore (lv' := [(7, .long b0), (5, .long a0), (0, .long a0), (2, .long b0), (4, .int 1)]) hx hb dX6_part_15 hl (by decide) rfl (fun ls hl => ?_)
  exact lp_X6_part_1 l G o X Y a0 b0 hE hr hlocks hK 100 a0 b0 hk hg _ _ hI ls (lv_sub hl [2, 3, 4, 1, 0] rfl)
end
section
/-! ===== 09: the run of the simulation ===== -/
theorem brkX_o {X : SX} {i k j : Nat} (h : k ≠ 15 + 2 * i) : brkX X i k j = X k j := by
  unfold brkX
  simp (disch := omega) only [sx_o]
theorem clsX_o {X : SX} {i k j : Nat} (h : k ≠ 15 + 2 * i) (h2 : k ≠ 13) : clsX X i k j = X k j := by
  unfold clsX
  simp (disch := omega) only [sx_o]
theorem finX_o {X : SX} {i k j : Nat} (h : k ≠ 15 + 2 * i) (h2 : k ≠ 13) (h3 : ¬ (k = 14 + 2 * i ∧ (j = 1 ∨ j = 3 ∨ j = 4))) (h4 : ¬ (k = 11 ∧ (j = 4 ∨ j = 5 ∨ j = 7 ∨ j = 8))) : finX X i k j = X k j := by
  unfold finX
  split
  · simp (disch := omega) only [sx_o, clsX_o, brkX_o]
  · simp (disch := omega) only [sx_o, pbX_o, clsX_o, brkX_o]
theorem finX_g {X : SX} {i : Nat} : finX X i 11 5 = (-1) := by
  unfold finX
  split
  · simp (disch := omega) only [sx_o, clsX_o, brkX_o, sx_e]
  · simp (disch := omega) only [sx_o, pbX_o, clsX_o, brkX_o, sx_e]
theorem tkX_o {X : SX} {k j : Nat} (h : ∀ i, ¬ (k = 14 + 2 * i ∧ (j = 1 ∨ j = 3))) (h2 : ¬ (k = 11 ∧ j = 4)) : ∀ n : Nat, tkX X n k j = X k j
  | 0 => rfl
  | n + 1 => by
    have ih := tkX_o (X := X) h h2 n
    unfold tkX
    split
    · split
      · rw [pbX_o (h n) h2]; exact ih
      · exact ih
    · exact ih
theorem staX_o {X : SX} {c i k j : Nat} (h : ¬ (k = 14 + 2 * i ∧ j = 1)) (h2 : ¬ (k = 11 ∧ (j = 5 ∨ j = 6))) : staX X c i k j = X k j := by
  unfold staX
  simp (disch := omega) only [sx_o]
theorem SimInv.tm {X : SX} {cnt : Nat} {v : Int32} (h : SimInv X cnt) : SimInv (sx X 11 3 v) cnt := by
  unfold SimInv
  simp (disch := omega) only [sx_o]
  exact h
theorem SimInv.fi {X : SX} {cnt : Nat} (h : SimInv X cnt) : SimInv (fiF X) cnt := by
  unfold fiF
  split
  · exact h
  · split
    · unfold SimInv
      rw [finX_g, finX_o (by omega) (by omega) (by omega) (by omega), finX_o (by omega) (by omega) (by omega) (by omega)]
      exact ⟨h.1, h.2.1, Or.inl rfl, h.2.2.2⟩
    · exact h
theorem SimInv.tk {X : SX} {cnt : Nat} (h : SimInv X cnt) (n : Nat) : SimInv (tkX X n) cnt := by
  unfold SimInv
  rw [tkX_o (fun i => by omega) (by omega), tkX_o (fun i => by omega) (by omega), tkX_o (fun i => by omega) (by omega)]
  exact h
theorem SimInv.st {X : SX} {cnt : Nat} (h : SimInv X cnt) : SimInv (stF X cnt) cnt := by
  unfold stF
  split
  · split
    · exact h
    · rename_i j hq
      unfold SimInv
      rw [show staX X cnt j 11 5 = nI j by unfold staX; simp (disch := omega) only [sx_o, sx_e], staX_o (k := 11) (by omega) (by omega), staX_o (k := 2) (by omega) (by omega)]
      exact ⟨h.1, h.2.1, Or.inr ⟨j, fstN_lt _ _ hq, rfl⟩, h.2.2.2⟩
  · exact h
/-- one event -/
def evX (X : SX) (cnt : Nat) : SX := stF (tkX (fiF (sx X 11 3 (nxE X cnt))) cnt) cnt
theorem SimInv.ev {X : SX} {cnt : Nat} (h : SimInv X cnt) : SimInv (evX X cnt) cnt := ((h.tm.fi).tk cnt).st
def rnX (e : Int32) (cnt : Nat) : Nat → SX → SX
  | 0, Z => sx Z 11 3 e
  | n + 1, Z => if nxE Z cnt ≤ e then rnX e cnt n (evX Z cnt) else sx Z 11 3 e
theorem SimInv.rn {e : Int32} {cnt : Nat} : ∀ (n : Nat) {X : SX}, SimInv X cnt → SimInv (rnX e cnt n X) cnt
  | 0, _, h => h.tm
  | n + 1, _, h => by
    unfold rnX
    split
    · exact SimInv.rn n h.ev
    · exact h.tm
set_option maxRecDepth 100000 in
set_option maxHeartbeats 4000000 in
theorem lp_X3_run (l : Launch) (G : GG) (o : Nat) (X : SX) (Y : SY) (mm : Nat) (cnt : Nat) (w : Int32) (hm : mm < 2 ^ 31) {p9 : Program} {e9 : Env} {s9 : State} {m9 : MethodId} {args9 : Array Value} {below9 : List Frame} {meth9 : Method} {c9 : Code} (hE : gE p9 m9 c9 cX3_run 6 s9 args9 yX3_run.cls) (hr : meth9.sig.returnType = none) (hlocks : meth9.locks = false) (hK : KK G s9) :
    ∀ (n : Nat) (i : Nat) (Z : SX), i + n = mm ∧ SimInv Z cnt → ∀ (H : Heap) (locs : List Loc), In G o Z Y s9.heap H locs → ∀ ls : Array Slot, lv_has ls 6 [(0, .ref (o + 11)), (1, .int (nI mm)), (2, .ref (o + 2)), (3, .int w), (4, .int (nI i))] → W p9 l e9 (Rm 4 95) s9 m9 args9 below9 meth9 c9 H locs 0 0 (MQ below9 (Qw G o none (rnX w cnt n Z) Y) args9 s9 0 0 (rg o)) (F0 m9 10 ls []) := by
  have hx := hE.1
  have hb := hE.2.1
  intro n
  induction n with
  | zero =>
    intro i Z hi H locs hI ls hl
    refine lv_iload hx hb dX3_run_10 (lv_at hl 4 rfl) ?_
    refine lv_iload_n hx hb dX3_run_12 rfl (lv_at hl 1 rfl) ?_
    refine lv_icmp_ge (tgt := 57) hx hb dX3_run_13 (by decide) (fun _ => ?_) (fun q => absurd (nI_le (by omega) (by omega)) q)
    refine lv_aload_n hx hb dX3_run_57 rfl (lv_at hl 0 rfl) ?_
    refine lv_iload_n hx hb dX3_run_58 rfl (lv_at hl 3 rfl) ?_
    refine x_puti (k := 11) hE hK hI (by decide) inG3 tyX3 tyX3_ok nmX3 (e_11 G o) rfl 3 (by decide) mw_108 rfl (by decide +kernel) (by exact Nat.le_of_ble_eq_true rfl) rfl dX3_run_59 (fun H locs hI => ?_)
    exact x_vret hE hr hlocks hI rfl rfl rfl dX3_run_62
  | succ n ih =>
    intro i Z hi H locs hI ls hl
    refine lv_iload hx hb dX3_run_10 (lv_at hl 4 rfl) ?_
    refine lv_iload_n hx hb dX3_run_12 rfl (lv_at hl 1 rfl) ?_
    refine lv_icmp_ge (tgt := 57) hx hb dX3_run_13 (by decide) (fun q => absurd q (nI_ge (by omega) (by omega))) (fun _ => ?_)
    refine lv_aload_n hx hb dX3_run_16 rfl (lv_at hl 0 rfl) ?_
    refine x_callVi (k := 11) hE hK hI (c_X3_nextEvent l G o _ _ cnt hi.2.1 hi.2.2.1) mf_X3_nextEvent mw_350 (by decide) ((e_11 G o) _ _) rfl rfl hl.1 rfl (Nat.le_of_ble_eq_true rfl) ⟨(Nat.le_of_ble_eq_true rfl), (Nat.le_of_ble_eq_true rfl)⟩ ⟨Nat.zero_le _, Nat.zero_le _⟩ dX3_run_17 (fun H locs hI => ?_)
    refine lv_istore (lv' := [(5, .int (nxE Z cnt)), (0, .ref (o + 11)), (1, .int (nI mm)), (2, .ref (o + 2)), (3, .int w), (4, .int (nI i))]) hx hb dX3_run_20 hl (by decide) rfl (fun ls hl => ?_)
    refine lv_iload hx hb dX3_run_22 (lv_at hl 0 rfl) ?_
    refine lv_iload_n hx hb dX3_run_24 rfl (lv_at hl 4 rfl) ?_
    refine lv_icmp_le (tgt := 31) hx hb dX3_run_25 (by decide) (fun c1 => ?_) (fun c1 => ?_)
    · refine lv_aload_n hx hb dX3_run_31 rfl (lv_at hl 1 rfl) ?_
      refine lv_iload hx hb dX3_run_32 (lv_at hl 0 rfl) ?_
      refine x_puti (k := 11) hE hK hI (by decide) inG3 tyX3 tyX3_ok nmX3 (e_11 G o) rfl 3 (by decide) mw_108 rfl (by decide +kernel) (by exact Nat.le_of_ble_eq_true rfl) rfl dX3_run_34 (fun H locs hI => ?_)
      refine lv_aload_n hx hb dX3_run_37 rfl (lv_at hl 1 rfl) ?_
      refine lv_aload_n hx hb dX3_run_38 rfl (lv_at hl 3 rfl) ?_
      refine x_callVv (k := 11) hE hK hI (c_X3_finishIfDue l G o _ _ cnt (SimInv.tm hi.2)) mf_X3_finishIfDue mw_358 (by decide) ((e_11 G o) _ _) rfl rfl hl.1 rfl (Nat.le_of_ble_eq_true rfl) ⟨(Nat.le_of_ble_eq_true rfl), (Nat.le_of_ble_eq_true rfl)⟩ ⟨Nat.zero_le _, Nat.zero_le _⟩ dX3_run_39 (fun H locs hI => ?_)
      refine lv_aload_n hx hb dX3_run_42 rfl (lv_at hl 1 rfl) ?_
      refine x_callVv (k := 11) hE hK hI (c_X3_take l G o _ _ cnt (SimInv.fi (SimInv.tm hi.2))) mf_X3_takePlannedLots mw_375 (by decide) ((e_11 G o) _ _) rfl rfl hl.1 rfl (Nat.le_of_ble_eq_true rfl) ⟨(Nat.le_of_ble_eq_true rfl), (Nat.le_of_ble_eq_true rfl)⟩ ⟨Nat.zero_le _, Nat.zero_le _⟩ dX3_run_43 (fun H locs hI => ?_)
      refine lv_aload_n hx hb dX3_run_46 rfl (lv_at hl 1 rfl) ?_
      refine lv_aload_n hx hb dX3_run_47 rfl (lv_at hl 3 rfl) ?_
      refine x_callVv (k := 11) hE hK hI (c_X3_startIfIdle l G o _ _ cnt (SimInv.tk (SimInv.fi (SimInv.tm hi.2)) cnt)) mf_X3_startIfIdle mw_379 (by decide) ((e_11 G o) _ _) rfl rfl hl.1 rfl (Nat.le_of_ble_eq_true rfl) ⟨(Nat.le_of_ble_eq_true rfl), (Nat.le_of_ble_eq_true rfl)⟩ ⟨Nat.zero_le _, Nat.zero_le _⟩ dX3_run_48 (fun H locs hI => ?_)
      refine lv_iinc (v := nI (i + 1)) (lv' := [(4, .int (nI (i + 1))), (5, .int (nxE Z cnt)), (0, .ref (o + 11)), (1, .int (nI mm)), (2, .ref (o + 2)), (3, .int w)]) hx hb dX3_run_51 hl (k := 5) rfl (nI_add i 1) (by decide) rfl (fun ls hl => ?_)
      refine lv_goto (tgt := 10) hx hb dX3_run_54 (by decide) ?_
      have ih' := ih (i + 1) (evX Z cnt) ⟨by omega, hi.2.ev⟩ H locs hI ls (lv_sub hl [2, 3, 4, 5, 0] rfl)
      rw [← show rnX w cnt (n + 1) Z = rnX w cnt n (evX Z cnt) from if_pos c1] at ih'
      exact ih'
    · refine lv_goto (tgt := 57) hx hb dX3_run_28 (by decide) ?_
      refine lv_aload_n hx hb dX3_run_57 rfl (lv_at hl 1 rfl) ?_
      refine lv_iload_n hx hb dX3_run_58 rfl (lv_at hl 4 rfl) ?_
      refine x_puti (k := 11) hE hK hI (by decide) inG3 tyX3 tyX3_ok nmX3 (e_11 G o) rfl 3 (by decide) mw_108 rfl (by decide +kernel) (by exact Nat.le_of_ble_eq_true rfl) rfl dX3_run_59 (fun H locs hI => ?_)
      exact x_vret hE hr hlocks hI rfl ((if_neg c1).symm) rfl dX3_run_62
set_option maxRecDepth 100000 in
set_option maxHeartbeats 4000000 in
theorem c_X3_run (l : Launch) (G : GG) (o : Nat) (X : SX) (Y : SY) (mm : Nat) (cnt : Nat) (hm : mm < 2 ^ 31) (hS : SimInv X cnt) : Ct l yX3_run cX3_run 6 none 4 95 G o [.ref (o + 11), .int (nI mm), .ref (o + 2)] X Y none (rnX (X 11 3 + nI mm) cnt mm X) Y := by
  refine Ct.mk (by decide +kernel) (Nat.le_of_ble_eq_true rfl) rfl ?_
  intro p9 e9 s9 m9 args9 below9 meth9 c9 hE hr hlocks hK hI ls hl
  have hx := hE.1
  have hb := hE.2.1
  have hl : lv_has ls 6 [(0, .ref (o + 11)), (1, .int (nI mm)), (2, .ref (o + 2))] := hl
  refine lv_aload_n hx hb dX3_run_0 rfl (lv_at hl 0 rfl) ?_
  refine x_get (k := 11) hE hK hI (by decide) inG3 (e_11 G o _ _) rfl 3 (by decide) mw_108 rfl dX3_run_1 ?_
  refine lv_iload_n hx hb dX3_run_4 rfl (lv_at hl 1 rfl) ?_
  refine lv_iadd hx hb dX3_run_5 ?_
  refine lv_istore_n (lv' := [(3, .int ((X 11 3) + (nI mm))), (0, .ref (o + 11)), (1, .int (nI mm)), (2, .ref (o + 2))]) hx hb dX3_run_6 rfl hl (by decide) rfl (fun ls hl => ?_)
  refine lv_iconst (v := 0) hx hb dX3_run_7 (by decide) ?_
  refine lv_istore (lv' := [(4, .int 0), (3, .int ((X 11 3) + (nI mm))), (0, .ref (o + 11)), (1, .int (nI mm)), (2, .ref (o + 2))]) hx hb dX3_run_8 hl (by decide) rfl (fun ls hl => ?_)
  exact lp_X3_run l G o X Y mm cnt _ hm hE hr hlocks hK mm 0 X ⟨by omega, hS⟩ _ _ hI ls (lv_sub hl [2, 3, 4, 1, 0] rfl)
end
