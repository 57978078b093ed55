-- ===== PART A: goes FIRST, ahead of the names: the tables' words, and 'selects' of the private methods out of them =====
/-- a private method of a class that the tables say can be made, by its rows of tables_1 -/
def lw_okq (q : MethodName × Nat) : Prop := (q.1.cls ≠ "java/lang/invoke/MethodHandle" ∧ q.1.cls ≠ "java/lang/invoke/VarHandle") ∧ Cond.instantiable q.1.cls q.2 ∈ tables_1 ∧ Cond.privateMethod q.1 ∈ tables_1 ∧ Cond.instanceMethod q.1 ∈ tables_1
theorem lw_p0 : lw_okq (⟨"GrindingCircuit$SteadyState", "solveSize", "(LGrindingCircuit$Settings;II)V"⟩, 4) := ⟨⟨by decide +kernel, by decide +kernel⟩, List.mem_of_getElem? (i := 149) (by decide +kernel), List.mem_of_getElem? (i := 236) (by decide +kernel), List.mem_of_getElem? (i := 237) (by decide +kernel)⟩
theorem lw_p1 : lw_okq (⟨"GrindingCircuit$Simulation", "firstOfBin", "(I)I"⟩, 9) := ⟨⟨by decide +kernel, by decide +kernel⟩, List.mem_of_getElem? (i := 66) (by decide +kernel), List.mem_of_getElem? (i := 325) (by decide +kernel), List.mem_of_getElem? (i := 326) (by decide +kernel)⟩
theorem lw_p2 : lw_okq (⟨"GrindingCircuit$Lot", "coarserBy", "(LGrindingCircuit$Lot;)I"⟩, 5) := ⟨⟨by decide +kernel, by decide +kernel⟩, List.mem_of_getElem? (i := 73) (by decide +kernel), List.mem_of_getElem? (i := 334) (by decide +kernel), List.mem_of_getElem? (i := 335) (by decide +kernel)⟩
theorem lw_p3 : lw_okq (⟨"GrindingCircuit$Simulation", "nextEvent", "()I"⟩, 9) := ⟨⟨by decide +kernel, by decide +kernel⟩, List.mem_of_getElem? (i := 66) (by decide +kernel), List.mem_of_getElem? (i := 361) (by decide +kernel), List.mem_of_getElem? (i := 362) (by decide +kernel)⟩
theorem lw_p4 : lw_okq (⟨"GrindingCircuit$Simulation", "finishIfDue", "(LGrindingCircuit$Settings;)V"⟩, 9) := ⟨⟨by decide +kernel, by decide +kernel⟩, List.mem_of_getElem? (i := 66) (by decide +kernel), List.mem_of_getElem? (i := 369) (by decide +kernel), List.mem_of_getElem? (i := 370) (by decide +kernel)⟩
theorem lw_p5 : lw_okq (⟨"GrindingCircuit$Simulation", "takePlannedLots", "()V"⟩, 9) := ⟨⟨by decide +kernel, by decide +kernel⟩, List.mem_of_getElem? (i := 66) (by decide +kernel), List.mem_of_getElem? (i := 386) (by decide +kernel), List.mem_of_getElem? (i := 387) (by decide +kernel)⟩
theorem lw_p6 : lw_okq (⟨"GrindingCircuit$Simulation", "countBefore", "(LGrindingCircuit$Lot;I)I"⟩, 9) := ⟨⟨by decide +kernel, by decide +kernel⟩, List.mem_of_getElem? (i := 66) (by decide +kernel), List.mem_of_getElem? (i := 411) (by decide +kernel), List.mem_of_getElem? (i := 412) (by decide +kernel)⟩
theorem lw_p7 : lw_okq (⟨"GrindingCircuitModel", "shareOf", "(II)I"⟩, 7) := ⟨⟨by decide +kernel, by decide +kernel⟩, List.mem_of_getElem? (i := 475) (by decide +kernel), List.mem_of_getElem? (i := 517) (by decide +kernel), List.mem_of_getElem? (i := 518) (by decide +kernel)⟩
theorem lw_p8 : lw_okq (⟨"GrindingCircuitModel", "set", "(II)I"⟩, 7) := ⟨⟨by decide +kernel, by decide +kernel⟩, List.mem_of_getElem? (i := 475) (by decide +kernel), List.mem_of_getElem? (i := 525) (by decide +kernel), List.mem_of_getElem? (i := 526) (by decide +kernel)⟩
theorem lw_p9 : lw_okq (⟨"GrindingCircuitModel", "wrongSteady", "(II)I"⟩, 7) := ⟨⟨by decide +kernel, by decide +kernel⟩, List.mem_of_getElem? (i := 475) (by decide +kernel), List.mem_of_getElem? (i := 541) (by decide +kernel), List.mem_of_getElem? (i := 542) (by decide +kernel)⟩
theorem lw_p10 : lw_okq (⟨"GrindingCircuitModel", "asSet", "()V"⟩, 7) := ⟨⟨by decide +kernel, by decide +kernel⟩, List.mem_of_getElem? (i := 475) (by decide +kernel), List.mem_of_getElem? (i := 548) (by decide +kernel), List.mem_of_getElem? (i := 549) (by decide +kernel)⟩
theorem lw_p11 : lw_okq (⟨"GrindingCircuitModel", "layLoads", "()Z"⟩, 7) := ⟨⟨by decide +kernel, by decide +kernel⟩, List.mem_of_getElem? (i := 475) (by decide +kernel), List.mem_of_getElem? (i := 552) (by decide +kernel), List.mem_of_getElem? (i := 553) (by decide +kernel)⟩
theorem lw_p12 : lw_okq (⟨"GrindingCircuitModel", "powerOf", "()J"⟩, 7) := ⟨⟨by decide +kernel, by decide +kernel⟩, List.mem_of_getElem? (i := 475) (by decide +kernel), List.mem_of_getElem? (i := 573) (by decide +kernel), List.mem_of_getElem? (i := 574) (by decide +kernel)⟩
theorem lw_p13 : lw_okq (⟨"GrindingCircuitModel", "asCut", "(I)V"⟩, 7) := ⟨⟨by decide +kernel, by decide +kernel⟩, List.mem_of_getElem? (i := 475) (by decide +kernel), List.mem_of_getElem? (i := 582) (by decide +kernel), List.mem_of_getElem? (i := 583) (by decide +kernel)⟩
theorem lw_p14 : lw_okq (⟨"GrindingCircuitModel", "make", "(IIII)I"⟩, 7) := ⟨⟨by decide +kernel, by decide +kernel⟩, List.mem_of_getElem? (i := 475) (by decide +kernel), List.mem_of_getElem? (i := 602) (by decide +kernel), List.mem_of_getElem? (i := 603) (by decide +kernel)⟩
theorem lw_p15 : lw_okq (⟨"GrindingCircuitModel", "comes", "(I)V"⟩, 7) := ⟨⟨by decide +kernel, by decide +kernel⟩, List.mem_of_getElem? (i := 475) (by decide +kernel), List.mem_of_getElem? (i := 609) (by decide +kernel), List.mem_of_getElem? (i := 610) (by decide +kernel)⟩
def lw_privs_1 : List (MethodName × Nat) := [(⟨"GrindingCircuit$SteadyState", "solveSize", "(LGrindingCircuit$Settings;II)V"⟩, 4), (⟨"GrindingCircuit$Simulation", "firstOfBin", "(I)I"⟩, 9), (⟨"GrindingCircuit$Lot", "coarserBy", "(LGrindingCircuit$Lot;)I"⟩, 5), (⟨"GrindingCircuit$Simulation", "nextEvent", "()I"⟩, 9), (⟨"GrindingCircuit$Simulation", "finishIfDue", "(LGrindingCircuit$Settings;)V"⟩, 9), (⟨"GrindingCircuit$Simulation", "takePlannedLots", "()V"⟩, 9), (⟨"GrindingCircuit$Simulation", "countBefore", "(LGrindingCircuit$Lot;I)I"⟩, 9), (⟨"GrindingCircuitModel", "shareOf", "(II)I"⟩, 7), (⟨"GrindingCircuitModel", "set", "(II)I"⟩, 7), (⟨"GrindingCircuitModel", "wrongSteady", "(II)I"⟩, 7), (⟨"GrindingCircuitModel", "asSet", "()V"⟩, 7), (⟨"GrindingCircuitModel", "layLoads", "()Z"⟩, 7), (⟨"GrindingCircuitModel", "powerOf", "()J"⟩, 7), (⟨"GrindingCircuitModel", "asCut", "(I)V"⟩, 7), (⟨"GrindingCircuitModel", "make", "(IIII)I"⟩, 7), (⟨"GrindingCircuitModel", "comes", "(I)V"⟩, 7)]
theorem lw_r1 : ∀ q ∈ lw_privs_1, lw_okq q := List.forall_mem_cons.mpr ⟨lw_p0, List.forall_mem_cons.mpr ⟨lw_p1, List.forall_mem_cons.mpr ⟨lw_p2, List.forall_mem_cons.mpr ⟨lw_p3, List.forall_mem_cons.mpr ⟨lw_p4, List.forall_mem_cons.mpr ⟨lw_p5, List.forall_mem_cons.mpr ⟨lw_p6, List.forall_mem_cons.mpr ⟨lw_p7, List.forall_mem_cons.mpr ⟨lw_p8, List.forall_mem_cons.mpr ⟨lw_p9, List.forall_mem_cons.mpr ⟨lw_p10, List.forall_mem_cons.mpr ⟨lw_p11, List.forall_mem_cons.mpr ⟨lw_p12, List.forall_mem_cons.mpr ⟨lw_p13, List.forall_mem_cons.mpr ⟨lw_p14, List.forall_mem_cons.mpr ⟨lw_p15, fun _ h => absurd h List.not_mem_nil⟩⟩⟩⟩⟩⟩⟩⟩⟩⟩⟩⟩⟩⟩⟩⟩
theorem lw_p16 : lw_okq (⟨"GrindingCircuitModel", "start", "()V"⟩, 7) := ⟨⟨by decide +kernel, by decide +kernel⟩, List.mem_of_getElem? (i := 475) (by decide +kernel), List.mem_of_getElem? (i := 613) (by decide +kernel), List.mem_of_getElem? (i := 614) (by decide +kernel)⟩
theorem lw_p17 : lw_okq (⟨"GrindingCircuitModel", "inBin", "(I)I"⟩, 7) := ⟨⟨by decide +kernel, by decide +kernel⟩, List.mem_of_getElem? (i := 475) (by decide +kernel), List.mem_of_getElem? (i := 617) (by decide +kernel), List.mem_of_getElem? (i := 618) (by decide +kernel)⟩
theorem lw_p18 : lw_okq (⟨"GrindingCircuitModel", "of", "(II)I"⟩, 7) := ⟨⟨by decide +kernel, by decide +kernel⟩, List.mem_of_getElem? (i := 475) (by decide +kernel), List.mem_of_getElem? (i := 621) (by decide +kernel), List.mem_of_getElem? (i := 622) (by decide +kernel)⟩
theorem lw_p19 : lw_okq (⟨"GrindingCircuitModel", "place", "(I)I"⟩, 7) := ⟨⟨by decide +kernel, by decide +kernel⟩, List.mem_of_getElem? (i := 475) (by decide +kernel), List.mem_of_getElem? (i := 625) (by decide +kernel), List.mem_of_getElem? (i := 626) (by decide +kernel)⟩
theorem lw_p20 : lw_okq (⟨"GrindingCircuitModel", "isAhead", "(II)Z"⟩, 7) := ⟨⟨by decide +kernel, by decide +kernel⟩, List.mem_of_getElem? (i := 475) (by decide +kernel), List.mem_of_getElem? (i := 629) (by decide +kernel), List.mem_of_getElem? (i := 630) (by decide +kernel)⟩
theorem lw_p21 : lw_okq (⟨"GrindingCircuitModel", "ahead", "(II)I"⟩, 7) := ⟨⟨by decide +kernel, by decide +kernel⟩, List.mem_of_getElem? (i := 475) (by decide +kernel), List.mem_of_getElem? (i := 633) (by decide +kernel), List.mem_of_getElem? (i := 634) (by decide +kernel)⟩
theorem lw_p22 : lw_okq (⟨"GrindingCircuitModel", "weight", "(I)I"⟩, 7) := ⟨⟨by decide +kernel, by decide +kernel⟩, List.mem_of_getElem? (i := 475) (by decide +kernel), List.mem_of_getElem? (i := 637) (by decide +kernel), List.mem_of_getElem? (i := 638) (by decide +kernel)⟩
theorem lw_p23 : lw_okq (⟨"GrindingCircuitModel", "minute", "()V"⟩, 7) := ⟨⟨by decide +kernel, by decide +kernel⟩, List.mem_of_getElem? (i := 475) (by decide +kernel), List.mem_of_getElem? (i := 649) (by decide +kernel), List.mem_of_getElem? (i := 650) (by decide +kernel)⟩
theorem lw_p24 : lw_okq (⟨"GrindingCircuitModel", "finish", "()V"⟩, 7) := ⟨⟨by decide +kernel, by decide +kernel⟩, List.mem_of_getElem? (i := 475) (by decide +kernel), List.mem_of_getElem? (i := 653) (by decide +kernel), List.mem_of_getElem? (i := 654) (by decide +kernel)⟩
theorem lw_p25 : lw_okq (⟨"GrindingCircuitModel", "isLot", "(I)Z"⟩, 7) := ⟨⟨by decide +kernel, by decide +kernel⟩, List.mem_of_getElem? (i := 475) (by decide +kernel), List.mem_of_getElem? (i := 677) (by decide +kernel), List.mem_of_getElem? (i := 678) (by decide +kernel)⟩
def lw_privs_2 : List (MethodName × Nat) := [(⟨"GrindingCircuitModel", "start", "()V"⟩, 7), (⟨"GrindingCircuitModel", "inBin", "(I)I"⟩, 7), (⟨"GrindingCircuitModel", "of", "(II)I"⟩, 7), (⟨"GrindingCircuitModel", "place", "(I)I"⟩, 7), (⟨"GrindingCircuitModel", "isAhead", "(II)Z"⟩, 7), (⟨"GrindingCircuitModel", "ahead", "(II)I"⟩, 7), (⟨"GrindingCircuitModel", "weight", "(I)I"⟩, 7), (⟨"GrindingCircuitModel", "minute", "()V"⟩, 7), (⟨"GrindingCircuitModel", "finish", "()V"⟩, 7), (⟨"GrindingCircuitModel", "isLot", "(I)Z"⟩, 7)]
theorem lw_r2 : ∀ q ∈ lw_privs_2, lw_okq q := List.forall_mem_cons.mpr ⟨lw_p16, List.forall_mem_cons.mpr ⟨lw_p17, List.forall_mem_cons.mpr ⟨lw_p18, List.forall_mem_cons.mpr ⟨lw_p19, List.forall_mem_cons.mpr ⟨lw_p20, List.forall_mem_cons.mpr ⟨lw_p21, List.forall_mem_cons.mpr ⟨lw_p22, List.forall_mem_cons.mpr ⟨lw_p23, List.forall_mem_cons.mpr ⟨lw_p24, List.forall_mem_cons.mpr ⟨lw_p25, fun _ h => absurd h List.not_mem_nil⟩⟩⟩⟩⟩⟩⟩⟩⟩⟩
def lw_privs : List (MethodName × Nat) := lw_privs_1 ++ (lw_privs_2)
def lw_tbl : List Cond := k2_sels lw_privs ++ tables_1
theorem lw_privs_ok : ∀ q ∈ lw_privs, lw_okq q := by
  show ∀ q ∈ lw_privs_1 ++ (lw_privs_2), lw_okq q
  exact List.forall_mem_append.mpr ⟨lw_r1, lw_r2⟩

def RX0 : String := "GrindingCircuit$Lot"
def TX0 : u_T := fun k => match k with
  | 0 => ("GrindingCircuit$Lot", "masses", "[I", true)
  | 1 => ("GrindingCircuit$Lot", "place", "I", false)
  | 2 => ("GrindingCircuit$Lot", "comesAt", "I", false)
  | 3 => ("GrindingCircuit$Lot", "arrival", "I", false)
  | _ => ("GrindingCircuit$Lot", "timesGround", "I", false)
def tyX0 : Nat → FieldType := fun k => match k with
  | 0 => .array .int
  | 1 => .int
  | 2 => .int
  | 3 => .int
  | _ => .int
abbrev wsX00 : List Cond := u_ws RX0 TX0 5
theorem nmX0 : ∀ a, a < 5 → ∀ b, b < 5 → a ≠ b → (TX0 a).2.1 ≠ (TX0 b).2.1 := by decide +kernel
theorem tyX0_ok : ∀ k, k < 5 → parseFieldDescriptor (TX0 k).2.2.1 = some (tyX0 k) := by decide +kernel
abbrev cX0_init : ByteArray := prog_2_method_1_code
def yX0_init : MethodName := ⟨RX0, "<init>", "()V"⟩
abbrev cX0_copyFrom : ByteArray := prog_2_method_2_code
def yX0_copyFrom : MethodName := ⟨RX0, "copyFrom", "(LGrindingCircuit$Lot;)V"⟩
abbrev cX0_standsBefore : ByteArray := prog_2_method_3_code
def yX0_standsBefore : MethodName := ⟨RX0, "standsBefore", "(LGrindingCircuit$Lot;I)Z"⟩
abbrev cX0_coarserBy : ByteArray := prog_2_method_4_code
def yX0_coarserBy : MethodName := ⟨RX0, "coarserBy", "(LGrindingCircuit$Lot;)I"⟩
abbrev cX0_energyToGrind : ByteArray := prog_2_method_5_code
def yX0_energyToGrind : MethodName := ⟨RX0, "energyToGrind", "([I)I"⟩
abbrev cX0_breakOre : ByteArray := prog_2_method_6_code
def yX0_breakOre : MethodName := ⟨RX0, "breakOre", "([[I)V"⟩
abbrev cX0_classify : ByteArray := prog_2_method_7_code
def yX0_classify : MethodName := ⟨RX0, "classify", "([I[I)V"⟩
def RX1 : String := "GrindingCircuit$Plant"
def TX1 : u_T := fun k => match k with
  | 0 => ("GrindingCircuit$Plant", "settings", "LGrindingCircuit$Settings;", true)
  | _ => ("GrindingCircuit$Plant", "simulation", "LGrindingCircuit$Simulation;", true)
def tyX1 : Nat → FieldType := fun k => match k with
  | 0 => .object "GrindingCircuit$Settings"
  | _ => .object "GrindingCircuit$Simulation"
abbrev wsX10 : List Cond := u_ws RX1 TX1 2
theorem nmX1 : ∀ a, a < 2 → ∀ b, b < 2 → a ≠ b → (TX1 a).2.1 ≠ (TX1 b).2.1 := by decide +kernel
theorem tyX1_ok : ∀ k, k < 2 → parseFieldDescriptor (TX1 k).2.2.1 = some (tyX1 k) := by decide +kernel
abbrev cX1_init : ByteArray := prog_3_method_1_code
def yX1_init : MethodName := ⟨RX1, "<init>", "()V"⟩
abbrev cX1_copyFrom : ByteArray := prog_3_method_2_code
def yX1_copyFrom : MethodName := ⟨RX1, "copyFrom", "(LGrindingCircuit$Plant;)V"⟩
def RX2 : String := "GrindingCircuit$Settings"
def TX2 : u_T := fun k => match k with
  | 0 => ("GrindingCircuit$Settings", "shares", "[[I", true)
  | 1 => ("GrindingCircuit$Settings", "returns", "[I", true)
  | 2 => ("GrindingCircuit$Settings", "works", "[I", true)
  | 3 => ("GrindingCircuit$Settings", "feeds", "[I", true)
  | 4 => ("GrindingCircuit$Settings", "rate", "I", false)
  | _ => ("GrindingCircuit$Settings", "rule", "I", false)
def tyX2 : Nat → FieldType := fun k => match k with
  | 0 => .array (.array .int)
  | 1 => .array .int
  | 2 => .array .int
  | 3 => .array .int
  | 4 => .int
  | _ => .int
abbrev wsX20 : List Cond := u_ws RX2 TX2 6
theorem nmX2 : ∀ a, a < 6 → ∀ b, b < 6 → a ≠ b → (TX2 a).2.1 ≠ (TX2 b).2.1 := by decide +kernel
theorem tyX2_ok : ∀ k, k < 6 → parseFieldDescriptor (TX2 k).2.2.1 = some (tyX2 k) := by decide +kernel
abbrev cX2_init : ByteArray := prog_4_method_1_code
def yX2_init : MethodName := ⟨RX2, "<init>", "()V"⟩
abbrev cX2_putShare : ByteArray := prog_4_method_2_code
def yX2_putShare : MethodName := ⟨RX2, "putShare", "(III)V"⟩
abbrev cX2_copyFrom : ByteArray := prog_4_method_3_code
def yX2_copyFrom : MethodName := ⟨RX2, "copyFrom", "(LGrindingCircuit$Settings;)V"⟩
def RX3 : String := "GrindingCircuit$Simulation"
def TX3 : u_T := fun k => match k with
  | 0 => ("GrindingCircuit$Simulation", "lots", "[LGrindingCircuit$Lot;", true)
  | 1 => ("GrindingCircuit$Simulation", "productMasses", "[I", true)
  | 2 => ("GrindingCircuit$Simulation", "lotCount", "I", false)
  | 3 => ("GrindingCircuit$Simulation", "time", "I", false)
  | 4 => ("GrindingCircuit$Simulation", "arrivals", "I", false)
  | 5 => ("GrindingCircuit$Simulation", "ground", "I", false)
  | 6 => ("GrindingCircuit$Simulation", "finishTime", "I", false)
  | 7 => ("GrindingCircuit$Simulation", "energy", "I", false)
  | _ => ("GrindingCircuit$Simulation", "returnedMass", "I", false)
def tyX3 : Nat → FieldType := fun k => match k with
  | 0 => .array (.object "GrindingCircuit$Lot")
  | 1 => .array .int
  | 2 => .int
  | 3 => .int
  | 4 => .int
  | 5 => .int
  | 6 => .int
  | 7 => .int
  | _ => .int
abbrev wsX30 : List Cond := u_ws RX3 TX3 9
theorem nmX3 : ∀ a, a < 9 → ∀ b, b < 9 → a ≠ b → (TX3 a).2.1 ≠ (TX3 b).2.1 := by decide +kernel
theorem tyX3_ok : ∀ k, k < 9 → parseFieldDescriptor (TX3 k).2.2.1 = some (tyX3 k) := by decide +kernel
abbrev cX3_init : ByteArray := prog_5_method_1_code
def yX3_init : MethodName := ⟨RX3, "<init>", "()V"⟩
abbrev cX3_copyFrom : ByteArray := prog_5_method_2_code
def yX3_copyFrom : MethodName := ⟨RX3, "copyFrom", "(LGrindingCircuit$Simulation;)V"⟩
abbrev cX3_isIdle : ByteArray := prog_5_method_3_code
def yX3_isIdle : MethodName := ⟨RX3, "isIdle", "()Z"⟩
abbrev cX3_hasLot : ByteArray := prog_5_method_4_code
def yX3_hasLot : MethodName := ⟨RX3, "hasLot", "(I)Z"⟩
abbrev cX3_create : ByteArray := prog_5_method_5_code
def yX3_create : MethodName := ⟨RX3, "create", "(IIII)I"⟩
abbrev cX3_plan : ByteArray := prog_5_method_6_code
def yX3_plan : MethodName := ⟨RX3, "plan", "(LGrindingCircuit$Lot;I)V"⟩
abbrev cX3_putIntoBin : ByteArray := prog_5_method_7_code
def yX3_putIntoBin : MethodName := ⟨RX3, "putIntoBin", "(LGrindingCircuit$Lot;)V"⟩
abbrev cX3_run : ByteArray := prog_5_method_8_code
def yX3_run : MethodName := ⟨RX3, "run", "(ILGrindingCircuit$Settings;)V"⟩
abbrev cX3_nextEvent : ByteArray := prog_5_method_9_code
def yX3_nextEvent : MethodName := ⟨RX3, "nextEvent", "()I"⟩
abbrev cX3_finishIfDue : ByteArray := prog_5_method_10_code
def yX3_finishIfDue : MethodName := ⟨RX3, "finishIfDue", "(LGrindingCircuit$Settings;)V"⟩
abbrev cX3_takePlannedLots : ByteArray := prog_5_method_11_code
def yX3_takePlannedLots : MethodName := ⟨RX3, "takePlannedLots", "()V"⟩
abbrev cX3_startIfIdle : ByteArray := prog_5_method_12_code
def yX3_startIfIdle : MethodName := ⟨RX3, "startIfIdle", "(LGrindingCircuit$Settings;)V"⟩
abbrev cX3_minutesToGrind : ByteArray := prog_5_method_13_code
def yX3_minutesToGrind : MethodName := ⟨RX3, "minutesToGrind", "(II)I"⟩
abbrev cX3_countBin : ByteArray := prog_5_method_14_code
def yX3_countBin : MethodName := ⟨RX3, "countBin", "()I"⟩
abbrev cX3_firstOfBin : ByteArray := prog_5_method_15_code
def yX3_firstOfBin : MethodName := ⟨RX3, "firstOfBin", "(I)I"⟩
abbrev cX3_lotAt : ByteArray := prog_5_method_16_code
def yX3_lotAt : MethodName := ⟨RX3, "lotAt", "(II)I"⟩
abbrev cX3_countBefore : ByteArray := prog_5_method_17_code
def yX3_countBefore : MethodName := ⟨RX3, "countBefore", "(LGrindingCircuit$Lot;I)I"⟩
def RX4 : String := "GrindingCircuit$SteadyState"
def TX4 : u_T := fun k => match k with
  | 0 => ("GrindingCircuit$SteadyState", "loads", "[J", true)
  | 1 => ("GrindingCircuit$SteadyState", "cutReturns", "[I", true)
  | 2 => ("GrindingCircuit$SteadyState", "scale", "J", false)
  | _ => ("GrindingCircuit$SteadyState", "exists", "Z", false)
def tyX4 : Nat → FieldType := fun k => match k with
  | 0 => .array .long
  | 1 => .array .int
  | 2 => .long
  | _ => .boolean
abbrev wsX40 : List Cond := u_ws RX4 TX4 4
theorem nmX4 : ∀ a, a < 4 → ∀ b, b < 4 → a ≠ b → (TX4 a).2.1 ≠ (TX4 b).2.1 := by decide +kernel
theorem tyX4_ok : ∀ k, k < 4 → parseFieldDescriptor (TX4 k).2.2.1 = some (tyX4 k) := by decide +kernel
abbrev cX4_init : ByteArray := prog_6_method_1_code
def yX4_init : MethodName := ⟨RX4, "<init>", "()V"⟩
abbrev cX4_solveCut : ByteArray := prog_6_method_2_code
def yX4_solveCut : MethodName := ⟨RX4, "solveCut", "(LGrindingCircuit$Settings;I)V"⟩
abbrev cX4_solve : ByteArray := prog_6_method_3_code
def yX4_solve : MethodName := ⟨RX4, "solve", "(LGrindingCircuit$Settings;[I)V"⟩
abbrev cX4_solveSize : ByteArray := prog_6_method_4_code
def yX4_solveSize : MethodName := ⟨RX4, "solveSize", "(LGrindingCircuit$Settings;II)V"⟩
abbrev cX4_brokenInto : ByteArray := prog_6_method_5_code
def yX4_brokenInto : MethodName := ⟨RX4, "brokenInto", "(LGrindingCircuit$Settings;I)J"⟩
abbrev cX4_sumOfLoads : ByteArray := prog_6_method_6_code
def yX4_sumOfLoads : MethodName := ⟨RX4, "sumOfLoads", "()J"⟩
abbrev cX4_scaledPower : ByteArray := prog_6_method_7_code
def yX4_scaledPower : MethodName := ⟨RX4, "scaledPower", "([I)J"⟩
def RX5 : String := "GrindingCircuit"
def TX5 : u_T := fun k => match k with
  | 0 => ("GrindingCircuit", "plant", "LGrindingCircuit$Plant;", true)
  | 1 => ("GrindingCircuit", "slots", "[LGrindingCircuit$Plant;", true)
  | 2 => ("GrindingCircuit", "slotFilled", "[Z", true)
  | _ => ("GrindingCircuit", "steady", "LGrindingCircuit$SteadyState;", true)
def tyX5 : Nat → FieldType := fun k => match k with
  | 0 => .object "GrindingCircuit$Plant"
  | 1 => .array (.object "GrindingCircuit$Plant")
  | 2 => .array .boolean
  | _ => .object "GrindingCircuit$SteadyState"
abbrev wsX50 : List Cond := u_ws RX5 TX5 4
theorem nmX5 : ∀ a, a < 4 → ∀ b, b < 4 → a ≠ b → (TX5 a).2.1 ≠ (TX5 b).2.1 := by decide +kernel
theorem tyX5_ok : ∀ k, k < 4 → parseFieldDescriptor (TX5 k).2.2.1 = some (tyX5 k) := by decide +kernel
abbrev cX5_init : ByteArray := prog_1_method_1_code
def yX5_init : MethodName := ⟨RX5, "<init>", "()V"⟩
abbrev cX5_setBreakage : ByteArray := prog_1_method_2_code
def yX5_setBreakage : MethodName := ⟨RX5, "setBreakage", "(IIII)I"⟩
abbrev cX5_share : ByteArray := prog_1_method_3_code
def yX5_share : MethodName := ⟨RX5, "share", "(II)I"⟩
abbrev cX5_setReturn : ByteArray := prog_1_method_4_code
def yX5_setReturn : MethodName := ⟨RX5, "setReturn", "(II)I"⟩
abbrev cX5_setWork : ByteArray := prog_1_method_5_code
def yX5_setWork : MethodName := ⟨RX5, "setWork", "(II)I"⟩
abbrev cX5_setFeed : ByteArray := prog_1_method_6_code
def yX5_setFeed : MethodName := ⟨RX5, "setFeed", "(II)I"⟩
abbrev cX5_load : ByteArray := prog_1_method_7_code
def yX5_load : MethodName := ⟨RX5, "load", "(II)J"⟩
abbrev cX5_product : ByteArray := prog_1_method_8_code
def yX5_product : MethodName := ⟨RX5, "product", "(II)J"⟩
abbrev cX5_circulatingLoad : ByteArray := prog_1_method_9_code
def yX5_circulatingLoad : MethodName := ⟨RX5, "circulatingLoad", "(I)J"⟩
abbrev cX5_power : ByteArray := prog_1_method_10_code
def yX5_power : MethodName := ⟨RX5, "power", "(I)J"⟩
abbrev cX5_cutPower : ByteArray := prog_1_method_11_code
def yX5_cutPower : MethodName := ⟨RX5, "cutPower", "(II)J"⟩
abbrev cX5_finestCut : ByteArray := prog_1_method_12_code
def yX5_finestCut : MethodName := ⟨RX5, "finestCut", "(I)I"⟩
abbrev cX5_addLot : ByteArray := prog_1_method_13_code
def yX5_addLot : MethodName := ⟨RX5, "addLot", "(IIII)I"⟩
abbrev cX5_planLot : ByteArray := prog_1_method_14_code
def yX5_planLot : MethodName := ⟨RX5, "planLot", "(IIIII)I"⟩
abbrev cX5_advance : ByteArray := prog_1_method_15_code
def yX5_advance : MethodName := ⟨RX5, "advance", "(I)I"⟩
abbrev cX5_setRate : ByteArray := prog_1_method_16_code
def yX5_setRate : MethodName := ⟨RX5, "setRate", "(I)I"⟩
abbrev cX5_setRule : ByteArray := prog_1_method_17_code
def yX5_setRule : MethodName := ⟨RX5, "setRule", "(I)I"⟩
abbrev cX5_bin : ByteArray := prog_1_method_18_code
def yX5_bin : MethodName := ⟨RX5, "bin", "(I)I"⟩
abbrev cX5_mill : ByteArray := prog_1_method_19_code
def yX5_mill : MethodName := ⟨RX5, "mill", "(I)I"⟩
abbrev cX5_state : ByteArray := prog_1_method_20_code
def yX5_state : MethodName := ⟨RX5, "state", "(I)I"⟩
abbrev cX5_mass : ByteArray := prog_1_method_21_code
def yX5_mass : MethodName := ⟨RX5, "mass", "(II)I"⟩
abbrev cX5_passes : ByteArray := prog_1_method_22_code
def yX5_passes : MethodName := ⟨RX5, "passes", "(I)I"⟩
abbrev cX5_produced : ByteArray := prog_1_method_23_code
def yX5_produced : MethodName := ⟨RX5, "produced", "(I)I"⟩
abbrev cX5_total : ByteArray := prog_1_method_24_code
def yX5_total : MethodName := ⟨RX5, "total", "(I)I"⟩
abbrev cX5_save : ByteArray := prog_1_method_25_code
def yX5_save : MethodName := ⟨RX5, "save", "(I)I"⟩
abbrev cX5_restore : ByteArray := prog_1_method_26_code
def yX5_restore : MethodName := ⟨RX5, "restore", "(I)I"⟩
abbrev cX5_isWithin : ByteArray := prog_1_method_27_code
def yX5_isWithin : MethodName := ⟨RX5, "isWithin", "(III)Z"⟩
abbrev cX5_isSize : ByteArray := prog_1_method_28_code
def yX5_isSize : MethodName := ⟨RX5, "isSize", "(I)Z"⟩
abbrev cX5_isZeroOrOne : ByteArray := prog_1_method_29_code
def yX5_isZeroOrOne : MethodName := ⟨RX5, "isZeroOrOne", "(I)Z"⟩
abbrev cX5_isSlot : ByteArray := prog_1_method_30_code
def yX5_isSlot : MethodName := ⟨RX5, "isSlot", "(I)Z"⟩
abbrev cX5_isShareTo : ByteArray := prog_1_method_31_code
def yX5_isShareTo : MethodName := ⟨RX5, "isShareTo", "(II)Z"⟩
abbrev cX5_isLotMass : ByteArray := prog_1_method_32_code
def yX5_isLotMass : MethodName := ⟨RX5, "isLotMass", "(I)Z"⟩
abbrev cX5_areLotMasses : ByteArray := prog_1_method_33_code
def yX5_areLotMasses : MethodName := ⟨RX5, "areLotMasses", "(IIII)Z"⟩
abbrev cX5_exchange : ByteArray := prog_1_method_34_code
def yX5_exchange : MethodName := ⟨RX5, "exchange", "([IIII)I"⟩
abbrev cX5_sizeOrAll : ByteArray := prog_1_method_35_code
def yX5_sizeOrAll : MethodName := ⟨RX5, "sizeOrAll", "([II)I"⟩
abbrev cX5_sum : ByteArray := prog_1_method_36_code
def yX5_sum : MethodName := ⟨RX5, "sum", "([I)I"⟩
abbrev cX5_partOf : ByteArray := prog_1_method_37_code
def yX5_partOf : MethodName := ⟨RX5, "partOf", "(JJI)J"⟩
abbrev cX5_commonDivisor : ByteArray := prog_1_method_38_code
def yX5_commonDivisor : MethodName := ⟨RX5, "commonDivisor", "(JJ)J"⟩
def RX6 : String := "GrindingCircuitModel"
def TX6 : u_T := fun k => match k with
  | 0 => ("GrindingCircuitModel", "at", "[I", true)
  | 1 => ("GrindingCircuitModel", "slots", "[I", true)
  | 2 => ("GrindingCircuitModel", "isSaved", "[Z", true)
  | 3 => ("GrindingCircuitModel", "returns", "[I", true)
  | 4 => ("GrindingCircuitModel", "loads", "[J", true)
  | 5 => ("GrindingCircuitModel", "below", "J", false)
  | _ => ("GrindingCircuitModel", "fresh", "[I", true)
def tyX6 : Nat → FieldType := fun k => match k with
  | 0 => .array .int
  | 1 => .array .int
  | 2 => .array .boolean
  | 3 => .array .int
  | 4 => .array .long
  | 5 => .long
  | _ => .array .int
abbrev wsX60 : List Cond := u_ws RX6 TX6 7
theorem nmX6 : ∀ a, a < 7 → ∀ b, b < 7 → a ≠ b → (TX6 a).2.1 ≠ (TX6 b).2.1 := by decide +kernel
theorem tyX6_ok : ∀ k, k < 7 → parseFieldDescriptor (TX6 k).2.2.1 = some (tyX6 k) := by decide +kernel
abbrev cX6_init : ByteArray := prog_8_method_1_code
def yX6_init : MethodName := ⟨RX6, "<init>", "()V"⟩
abbrev cX6_in : ByteArray := prog_8_method_2_code
def yX6_in : MethodName := ⟨RX6, "in", "(III)Z"⟩
abbrev cX6_isSize : ByteArray := prog_8_method_3_code
def yX6_isSize : MethodName := ⟨RX6, "isSize", "(I)Z"⟩
abbrev cX6_shareOf : ByteArray := prog_8_method_4_code
def yX6_shareOf : MethodName := ⟨RX6, "shareOf", "(II)I"⟩
abbrev cX6_setBreakage : ByteArray := prog_8_method_5_code
def yX6_setBreakage : MethodName := ⟨RX6, "setBreakage", "(IIII)I"⟩
abbrev cX6_share : ByteArray := prog_8_method_6_code
def yX6_share : MethodName := ⟨RX6, "share", "(II)I"⟩
abbrev cX6_set : ByteArray := prog_8_method_7_code
def yX6_set : MethodName := ⟨RX6, "set", "(II)I"⟩
abbrev cX6_setReturn : ByteArray := prog_8_method_8_code
def yX6_setReturn : MethodName := ⟨RX6, "setReturn", "(II)I"⟩
abbrev cX6_setWork : ByteArray := prog_8_method_9_code
def yX6_setWork : MethodName := ⟨RX6, "setWork", "(II)I"⟩
abbrev cX6_setFeed : ByteArray := prog_8_method_10_code
def yX6_setFeed : MethodName := ⟨RX6, "setFeed", "(II)I"⟩
abbrev cX6_asSet : ByteArray := prog_8_method_11_code
def yX6_asSet : MethodName := ⟨RX6, "asSet", "()V"⟩
abbrev cX6_asCut : ByteArray := prog_8_method_12_code
def yX6_asCut : MethodName := ⟨RX6, "asCut", "(I)V"⟩
abbrev cX6_layLoads : ByteArray := prog_8_method_13_code
def yX6_layLoads : MethodName := ⟨RX6, "layLoads", "()Z"⟩
abbrev cX6_part : ByteArray := prog_8_method_14_code
def yX6_part : MethodName := ⟨RX6, "part", "(JJI)J"⟩
abbrev cX6_isPart : ByteArray := prog_8_method_15_code
def yX6_isPart : MethodName := ⟨RX6, "isPart", "(I)Z"⟩
abbrev cX6_wrongSteady : ByteArray := prog_8_method_16_code
def yX6_wrongSteady : MethodName := ⟨RX6, "wrongSteady", "(II)I"⟩
abbrev cX6_load : ByteArray := prog_8_method_17_code
def yX6_load : MethodName := ⟨RX6, "load", "(II)J"⟩
abbrev cX6_product : ByteArray := prog_8_method_18_code
def yX6_product : MethodName := ⟨RX6, "product", "(II)J"⟩
abbrev cX6_circulatingLoad : ByteArray := prog_8_method_19_code
def yX6_circulatingLoad : MethodName := ⟨RX6, "circulatingLoad", "(I)J"⟩
abbrev cX6_powerOf : ByteArray := prog_8_method_20_code
def yX6_powerOf : MethodName := ⟨RX6, "powerOf", "()J"⟩
abbrev cX6_power : ByteArray := prog_8_method_21_code
def yX6_power : MethodName := ⟨RX6, "power", "(I)J"⟩
abbrev cX6_cutPower : ByteArray := prog_8_method_22_code
def yX6_cutPower : MethodName := ⟨RX6, "cutPower", "(II)J"⟩
abbrev cX6_finestCut : ByteArray := prog_8_method_23_code
def yX6_finestCut : MethodName := ⟨RX6, "finestCut", "(I)I"⟩
abbrev cX6_lot : ByteArray := prog_8_method_24_code
def yX6_lot : MethodName := ⟨RX6, "lot", "(II)I"⟩
abbrev cX6_of : ByteArray := prog_8_method_25_code
def yX6_of : MethodName := ⟨RX6, "of", "(II)I"⟩
abbrev cX6_weight : ByteArray := prog_8_method_26_code
def yX6_weight : MethodName := ⟨RX6, "weight", "(I)I"⟩
abbrev cX6_ahead : ByteArray := prog_8_method_27_code
def yX6_ahead : MethodName := ⟨RX6, "ahead", "(II)I"⟩
abbrev cX6_isAhead : ByteArray := prog_8_method_28_code
def yX6_isAhead : MethodName := ⟨RX6, "isAhead", "(II)Z"⟩
abbrev cX6_place : ByteArray := prog_8_method_29_code
def yX6_place : MethodName := ⟨RX6, "place", "(I)I"⟩
abbrev cX6_inBin : ByteArray := prog_8_method_30_code
def yX6_inBin : MethodName := ⟨RX6, "inBin", "(I)I"⟩
abbrev cX6_comes : ByteArray := prog_8_method_31_code
def yX6_comes : MethodName := ⟨RX6, "comes", "(I)V"⟩
abbrev cX6_start : ByteArray := prog_8_method_32_code
def yX6_start : MethodName := ⟨RX6, "start", "()V"⟩
abbrev cX6_finish : ByteArray := prog_8_method_33_code
def yX6_finish : MethodName := ⟨RX6, "finish", "()V"⟩
abbrev cX6_minute : ByteArray := prog_8_method_34_code
def yX6_minute : MethodName := ⟨RX6, "minute", "()V"⟩
abbrev cX6_isMass : ByteArray := prog_8_method_35_code
def yX6_isMass : MethodName := ⟨RX6, "isMass", "(I)Z"⟩
abbrev cX6_areMasses : ByteArray := prog_8_method_36_code
def yX6_areMasses : MethodName := ⟨RX6, "areMasses", "(IIII)Z"⟩
abbrev cX6_make : ByteArray := prog_8_method_37_code
def yX6_make : MethodName := ⟨RX6, "make", "(IIII)I"⟩
abbrev cX6_addLot : ByteArray := prog_8_method_38_code
def yX6_addLot : MethodName := ⟨RX6, "addLot", "(IIII)I"⟩
abbrev cX6_planLot : ByteArray := prog_8_method_39_code
def yX6_planLot : MethodName := ⟨RX6, "planLot", "(IIIII)I"⟩
abbrev cX6_advance : ByteArray := prog_8_method_40_code
def yX6_advance : MethodName := ⟨RX6, "advance", "(I)I"⟩
abbrev cX6_setRate : ByteArray := prog_8_method_41_code
def yX6_setRate : MethodName := ⟨RX6, "setRate", "(I)I"⟩
abbrev cX6_setRule : ByteArray := prog_8_method_42_code
def yX6_setRule : MethodName := ⟨RX6, "setRule", "(I)I"⟩
abbrev cX6_bin : ByteArray := prog_8_method_43_code
def yX6_bin : MethodName := ⟨RX6, "bin", "(I)I"⟩
abbrev cX6_mill : ByteArray := prog_8_method_44_code
def yX6_mill : MethodName := ⟨RX6, "mill", "(I)I"⟩
abbrev cX6_isLot : ByteArray := prog_8_method_45_code
def yX6_isLot : MethodName := ⟨RX6, "isLot", "(I)Z"⟩
abbrev cX6_state : ByteArray := prog_8_method_46_code
def yX6_state : MethodName := ⟨RX6, "state", "(I)I"⟩
abbrev cX6_mass : ByteArray := prog_8_method_47_code
def yX6_mass : MethodName := ⟨RX6, "mass", "(II)I"⟩
abbrev cX6_passes : ByteArray := prog_8_method_48_code
def yX6_passes : MethodName := ⟨RX6, "passes", "(I)I"⟩
abbrev cX6_produced : ByteArray := prog_8_method_49_code
def yX6_produced : MethodName := ⟨RX6, "produced", "(I)I"⟩
abbrev cX6_total : ByteArray := prog_8_method_50_code
def yX6_total : MethodName := ⟨RX6, "total", "(I)I"⟩
abbrev cX6_save : ByteArray := prog_8_method_51_code
def yX6_save : MethodName := ⟨RX6, "save", "(I)I"⟩
abbrev cX6_restore : ByteArray := prog_8_method_52_code
def yX6_restore : MethodName := ⟨RX6, "restore", "(I)I"⟩
def RJ9 : String := "java/lang/Math"
def TJ9 : u_T := fun k => match k with
  | _ => ("", "", "", false)
def tyJ9 : Nat → FieldType := fun k => match k with
  | _ => .int
abbrev wsJ90 : List Cond := u_ws RJ9 TJ9 0
theorem nmJ9 : ∀ a, a < 0 → ∀ b, b < 0 → a ≠ b → (TJ9 a).2.1 ≠ (TJ9 b).2.1 := by decide +kernel
theorem tyJ9_ok : ∀ k, k < 0 → parseFieldDescriptor (TJ9 k).2.2.1 = some (tyJ9 k) := by decide +kernel
abbrev cJ9_max_7cf53 : ByteArray := prog_9_method_65_code
def yJ9_max_7cf53 : MethodName := ⟨RJ9, "max", "(II)I"⟩
abbrev cJ9_max_f86c9 : ByteArray := prog_9_method_66_code
def yJ9_max_f86c9 : MethodName := ⟨RJ9, "max", "(JJ)J"⟩
abbrev cJ9_min_7cf53 : ByteArray := prog_9_method_69_code
def yJ9_min_7cf53 : MethodName := ⟨RJ9, "min", "(II)I"⟩
def RJ10 : String := "java/lang/System"
def TJ10 : u_T := fun k => match k with
  | _ => ("", "", "", false)
def tyJ10 : Nat → FieldType := fun k => match k with
  | _ => .int
abbrev wsJ100 : List Cond := u_ws RJ10 TJ10 0
theorem nmJ10 : ∀ a, a < 0 → ∀ b, b < 0 → a ≠ b → (TJ10 a).2.1 ≠ (TJ10 b).2.1 := by decide +kernel
theorem tyJ10_ok : ∀ k, k < 0 → parseFieldDescriptor (TJ10 k).2.2.1 = some (tyJ10 k) := by decide +kernel
def RL : String := "GrindingCircuitLaw"
abbrev cL_law : ByteArray := code
def yL_law : MethodName := ⟨RL, "law", "([I)Z"⟩
abbrev vwCl : List vw_C := [(RX0, TX0, 5), (RX1, TX1, 2), (RX2, TX2, 6), (RX3, TX3, 9), (RX4, TX4, 4), (RX5, TX5, 4), (RX6, TX6, 7)]
/-- the words that a call may carry on -/
def gt : List Cond := lw_tbl.filter goodWord
theorem gt_of {w : Cond} (h : w ∈ tables_1) (hg : goodWord w = true) : w ∈ gt := List.mem_filter.mpr ⟨List.mem_append_right _ h, hg⟩
theorem gt_sel {w : Cond} (h : w ∈ k2_sels lw_privs) (hg : goodWord w = true) : w ∈ gt := List.mem_filter.mpr ⟨List.mem_append_left _ h, hg⟩
theorem gt_good {w : Cond} (h : w ∈ gt) : (w.onTables && w.keeps) = true ∨ ∃ ty, w = .arrayClass ty := good_of_word (List.mem_filter.mp h).2
theorem gt_tbl {w : Cond} (h : w ∈ gt) : w ∈ lw_tbl := (List.mem_filter.mp h).1
theorem mw_0 : Cond.initialized "GrindingCircuitLaw" ∈ gt := gt_of (List.mem_of_getElem? (i := 0) (by decide +kernel)) (by decide +kernel)
theorem mw_1 : Cond.initialized "GrindingCircuit" ∈ gt := gt_of (List.mem_of_getElem? (i := 1) (by decide +kernel)) (by decide +kernel)
theorem mw_2 : Cond.initialized "GrindingCircuit$Plant" ∈ gt := gt_of (List.mem_of_getElem? (i := 2) (by decide +kernel)) (by decide +kernel)
theorem mw_3 : Cond.initialized "GrindingCircuit$Settings" ∈ gt := gt_of (List.mem_of_getElem? (i := 3) (by decide +kernel)) (by decide +kernel)
theorem mw_4 : Cond.initialized "GrindingCircuit$Simulation" ∈ gt := gt_of (List.mem_of_getElem? (i := 4) (by decide +kernel)) (by decide +kernel)
theorem mw_5 : Cond.initialized "GrindingCircuit$Lot" ∈ gt := gt_of (List.mem_of_getElem? (i := 5) (by decide +kernel)) (by decide +kernel)
theorem mw_6 : Cond.initialized "GrindingCircuit$SteadyState" ∈ gt := gt_of (List.mem_of_getElem? (i := 6) (by decide +kernel)) (by decide +kernel)
theorem mw_7 : Cond.initialized "GrindingCircuitModel" ∈ gt := gt_of (List.mem_of_getElem? (i := 7) (by decide +kernel)) (by decide +kernel)
theorem mw_8 : Cond.initialized "java/lang/Math" ∈ gt := gt_of (List.mem_of_getElem? (i := 8) (by decide +kernel)) (by decide +kernel)
theorem mw_9 : Cond.initialized "java/lang/System" ∈ gt := gt_of (List.mem_of_getElem? (i := 9) (by decide +kernel)) (by decide +kernel)
theorem mw_10 : Cond.classLink "GrindingCircuitLaw" (7 : Nat) "GrindingCircuit" ∈ gt := gt_of (List.mem_of_getElem? (i := 10) (by decide +kernel)) (by decide +kernel)
theorem mw_11 : Cond.instantiable "GrindingCircuit" (4 : Nat) ∈ gt := gt_of (List.mem_of_getElem? (i := 11) (by decide +kernel)) (by decide +kernel)
theorem mw_12 : Cond.methodLink "GrindingCircuitLaw" (9 : Nat) (⟨"GrindingCircuit", "<init>", "()V"⟩ : MethodName) ∈ gt := gt_of (List.mem_of_getElem? (i := 12) (by decide +kernel)) (by decide +kernel)
theorem mw_13 : Cond.instanceMethod (⟨"GrindingCircuit", "<init>", "()V"⟩ : MethodName) ∈ gt := gt_of (List.mem_of_getElem? (i := 13) (by decide +kernel)) (by decide +kernel)
theorem mw_14 : Cond.code (⟨"GrindingCircuit", "<init>", "()V"⟩ : MethodName) prog_1_method_1_code (1 : Nat) (Option.none : Option FieldType) ∈ gt := gt_of (List.mem_of_getElem? (i := 14) (by decide +kernel)) (by decide +kernel)
theorem mw_15 : Cond.methodLink "GrindingCircuit" (1 : Nat) (⟨"java/lang/Object", "<init>", "()V"⟩ : MethodName) ∈ gt := gt_of (List.mem_of_getElem? (i := 15) (by decide +kernel)) (by decide +kernel)
theorem mw_16 : Cond.instanceMethod (⟨"java/lang/Object", "<init>", "()V"⟩ : MethodName) ∈ gt := gt_of (List.mem_of_getElem? (i := 16) (by decide +kernel)) (by decide +kernel)
theorem mw_17 : Cond.code (⟨"java/lang/Object", "<init>", "()V"⟩ : MethodName) object_method_1_code (1 : Nat) (Option.none : Option FieldType) ∈ gt := gt_of (List.mem_of_getElem? (i := 17) (by decide +kernel)) (by decide +kernel)
theorem mw_18 : Cond.classLink "GrindingCircuit" (7 : Nat) "GrindingCircuit$Plant" ∈ gt := gt_of (List.mem_of_getElem? (i := 18) (by decide +kernel)) (by decide +kernel)
theorem mw_19 : Cond.instantiable "GrindingCircuit$Plant" (2 : Nat) ∈ gt := gt_of (List.mem_of_getElem? (i := 19) (by decide +kernel)) (by decide +kernel)
theorem mw_21 : Cond.instanceMethod (⟨"GrindingCircuit$Plant", "<init>", "()V"⟩ : MethodName) ∈ gt := gt_of (List.mem_of_getElem? (i := 21) (by decide +kernel)) (by decide +kernel)
theorem mw_22 : Cond.code (⟨"GrindingCircuit$Plant", "<init>", "()V"⟩ : MethodName) prog_3_method_1_code (1 : Nat) (Option.none : Option FieldType) ∈ gt := gt_of (List.mem_of_getElem? (i := 22) (by decide +kernel)) (by decide +kernel)
theorem mw_23 : Cond.methodLink "GrindingCircuit$Plant" (1 : Nat) (⟨"java/lang/Object", "<init>", "()V"⟩ : MethodName) ∈ gt := gt_of (List.mem_of_getElem? (i := 23) (by decide +kernel)) (by decide +kernel)
theorem mw_24 : Cond.classLink "GrindingCircuit$Plant" (7 : Nat) "GrindingCircuit$Settings" ∈ gt := gt_of (List.mem_of_getElem? (i := 24) (by decide +kernel)) (by decide +kernel)
theorem mw_25 : Cond.instantiable "GrindingCircuit$Settings" (6 : Nat) ∈ gt := gt_of (List.mem_of_getElem? (i := 25) (by decide +kernel)) (by decide +kernel)
theorem mw_26 : Cond.methodLink "GrindingCircuit$Plant" (9 : Nat) (⟨"GrindingCircuit$Settings", "<init>", "()V"⟩ : MethodName) ∈ gt := gt_of (List.mem_of_getElem? (i := 26) (by decide +kernel)) (by decide +kernel)
theorem mw_27 : Cond.instanceMethod (⟨"GrindingCircuit$Settings", "<init>", "()V"⟩ : MethodName) ∈ gt := gt_of (List.mem_of_getElem? (i := 27) (by decide +kernel)) (by decide +kernel)
theorem mw_28 : Cond.code (⟨"GrindingCircuit$Settings", "<init>", "()V"⟩ : MethodName) prog_4_method_1_code (2 : Nat) (Option.none : Option FieldType) ∈ gt := gt_of (List.mem_of_getElem? (i := 28) (by decide +kernel)) (by decide +kernel)
theorem mw_29 : Cond.methodLink "GrindingCircuit$Settings" (3 : Nat) (⟨"java/lang/Object", "<init>", "()V"⟩ : MethodName) ∈ gt := gt_of (List.mem_of_getElem? (i := 29) (by decide +kernel)) (by decide +kernel)
theorem mw_30 : Cond.classLink "GrindingCircuit$Settings" (9 : Nat) "[[I" ∈ gt := gt_of (List.mem_of_getElem? (i := 30) (by decide +kernel)) (by decide +kernel)
theorem mw_32 : Cond.fieldLink "GrindingCircuit$Settings" (11 : Nat) "GrindingCircuit$Settings" "shares" "[[I" ∈ gt := gt_of (List.mem_of_getElem? (i := 32) (by decide +kernel)) (by decide +kernel)
theorem mw_33 : Cond.fieldLink "GrindingCircuit" (49 : Nat) "GrindingCircuit$Settings" "shares" "[[I" ∈ gt := gt_of (List.mem_of_getElem? (i := 33) (by decide +kernel)) (by decide +kernel)
theorem mw_34 : Cond.fieldLink "GrindingCircuit$SteadyState" (44 : Nat) "GrindingCircuit$Settings" "shares" "[[I" ∈ gt := gt_of (List.mem_of_getElem? (i := 34) (by decide +kernel)) (by decide +kernel)
theorem mw_35 : Cond.fieldLink "GrindingCircuit$Simulation" (107 : Nat) "GrindingCircuit$Settings" "shares" "[[I" ∈ gt := gt_of (List.mem_of_getElem? (i := 35) (by decide +kernel)) (by decide +kernel)
theorem mw_36 : Cond.fieldLink "GrindingCircuit$Settings" (16 : Nat) "GrindingCircuit$Settings" "returns" "[I" ∈ gt := gt_of (List.mem_of_getElem? (i := 36) (by decide +kernel)) (by decide +kernel)
theorem mw_37 : Cond.fieldLink "GrindingCircuit" (53 : Nat) "GrindingCircuit$Settings" "returns" "[I" ∈ gt := gt_of (List.mem_of_getElem? (i := 37) (by decide +kernel)) (by decide +kernel)
theorem mw_38 : Cond.fieldLink "GrindingCircuit$Simulation" (115 : Nat) "GrindingCircuit$Settings" "returns" "[I" ∈ gt := gt_of (List.mem_of_getElem? (i := 38) (by decide +kernel)) (by decide +kernel)
theorem mw_39 : Cond.fieldLink "GrindingCircuit$Settings" (20 : Nat) "GrindingCircuit$Settings" "works" "[I" ∈ gt := gt_of (List.mem_of_getElem? (i := 39) (by decide +kernel)) (by decide +kernel)
theorem mw_40 : Cond.fieldLink "GrindingCircuit" (61 : Nat) "GrindingCircuit$Settings" "works" "[I" ∈ gt := gt_of (List.mem_of_getElem? (i := 40) (by decide +kernel)) (by decide +kernel)
theorem mw_41 : Cond.fieldLink "GrindingCircuit$Simulation" (98 : Nat) "GrindingCircuit$Settings" "works" "[I" ∈ gt := gt_of (List.mem_of_getElem? (i := 41) (by decide +kernel)) (by decide +kernel)
theorem mw_42 : Cond.fieldLink "GrindingCircuit$Settings" (23 : Nat) "GrindingCircuit$Settings" "feeds" "[I" ∈ gt := gt_of (List.mem_of_getElem? (i := 42) (by decide +kernel)) (by decide +kernel)
theorem mw_43 : Cond.fieldLink "GrindingCircuit$SteadyState" (39 : Nat) "GrindingCircuit$Settings" "feeds" "[I" ∈ gt := gt_of (List.mem_of_getElem? (i := 43) (by decide +kernel)) (by decide +kernel)
theorem mw_44 : Cond.fieldLink "GrindingCircuit" (64 : Nat) "GrindingCircuit$Settings" "feeds" "[I" ∈ gt := gt_of (List.mem_of_getElem? (i := 44) (by decide +kernel)) (by decide +kernel)
theorem mw_45 : Cond.fieldLink "GrindingCircuit$Settings" (26 : Nat) "GrindingCircuit$Settings" "rate" "I" ∈ gt := gt_of (List.mem_of_getElem? (i := 45) (by decide +kernel)) (by decide +kernel)
theorem mw_46 : Cond.fieldLink "GrindingCircuit$Simulation" (135 : Nat) "GrindingCircuit$Settings" "rate" "I" ∈ gt := gt_of (List.mem_of_getElem? (i := 46) (by decide +kernel)) (by decide +kernel)
theorem mw_47 : Cond.fieldLink "GrindingCircuit" (166 : Nat) "GrindingCircuit$Settings" "rate" "I" ∈ gt := gt_of (List.mem_of_getElem? (i := 47) (by decide +kernel)) (by decide +kernel)
theorem mw_48 : Cond.fieldLink "GrindingCircuit$Settings" (30 : Nat) "GrindingCircuit$Settings" "rule" "I" ∈ gt := gt_of (List.mem_of_getElem? (i := 48) (by decide +kernel)) (by decide +kernel)
theorem mw_49 : Cond.fieldLink "GrindingCircuit$Simulation" (128 : Nat) "GrindingCircuit$Settings" "rule" "I" ∈ gt := gt_of (List.mem_of_getElem? (i := 49) (by decide +kernel)) (by decide +kernel)
theorem mw_50 : Cond.fieldLink "GrindingCircuit" (169 : Nat) "GrindingCircuit$Settings" "rule" "I" ∈ gt := gt_of (List.mem_of_getElem? (i := 50) (by decide +kernel)) (by decide +kernel)
theorem mw_51 : Cond.laysFinal "GrindingCircuit$Settings" "GrindingCircuit$Settings" "shares" "[[I" ∈ gt := gt_of (List.mem_of_getElem? (i := 51) (by decide +kernel)) (by decide +kernel)
theorem mw_53 : Cond.laysFinal "GrindingCircuit$Settings" "GrindingCircuit$Settings" "returns" "[I" ∈ gt := gt_of (List.mem_of_getElem? (i := 53) (by decide +kernel)) (by decide +kernel)
theorem mw_55 : Cond.laysFinal "GrindingCircuit$Settings" "GrindingCircuit$Settings" "works" "[I" ∈ gt := gt_of (List.mem_of_getElem? (i := 55) (by decide +kernel)) (by decide +kernel)
theorem mw_57 : Cond.laysFinal "GrindingCircuit$Settings" "GrindingCircuit$Settings" "feeds" "[I" ∈ gt := gt_of (List.mem_of_getElem? (i := 57) (by decide +kernel)) (by decide +kernel)
theorem mw_59 : Cond.lays "GrindingCircuit$Settings" "GrindingCircuit$Settings" "rate" "I" ∈ gt := gt_of (List.mem_of_getElem? (i := 59) (by decide +kernel)) (by decide +kernel)
theorem mw_61 : Cond.lays "GrindingCircuit$Settings" "GrindingCircuit$Settings" "rule" "I" ∈ gt := gt_of (List.mem_of_getElem? (i := 61) (by decide +kernel)) (by decide +kernel)
theorem mw_64 : Cond.arrayClass FieldType.int ∈ gt := gt_of (List.mem_of_getElem? (i := 64) (by decide +kernel)) (by decide +kernel)
theorem mw_65 : Cond.classLink "GrindingCircuit$Plant" (16 : Nat) "GrindingCircuit$Simulation" ∈ gt := gt_of (List.mem_of_getElem? (i := 65) (by decide +kernel)) (by decide +kernel)
theorem mw_66 : Cond.instantiable "GrindingCircuit$Simulation" (9 : Nat) ∈ gt := gt_of (List.mem_of_getElem? (i := 66) (by decide +kernel)) (by decide +kernel)
theorem mw_67 : Cond.methodLink "GrindingCircuit$Plant" (18 : Nat) (⟨"GrindingCircuit$Simulation", "<init>", "()V"⟩ : MethodName) ∈ gt := gt_of (List.mem_of_getElem? (i := 67) (by decide +kernel)) (by decide +kernel)
theorem mw_68 : Cond.instanceMethod (⟨"GrindingCircuit$Simulation", "<init>", "()V"⟩ : MethodName) ∈ gt := gt_of (List.mem_of_getElem? (i := 68) (by decide +kernel)) (by decide +kernel)
theorem mw_69 : Cond.code (⟨"GrindingCircuit$Simulation", "<init>", "()V"⟩ : MethodName) prog_5_method_1_code (2 : Nat) (Option.none : Option FieldType) ∈ gt := gt_of (List.mem_of_getElem? (i := 69) (by decide +kernel)) (by decide +kernel)
theorem mw_70 : Cond.methodLink "GrindingCircuit$Simulation" (3 : Nat) (⟨"java/lang/Object", "<init>", "()V"⟩ : MethodName) ∈ gt := gt_of (List.mem_of_getElem? (i := 70) (by decide +kernel)) (by decide +kernel)
theorem mw_71 : Cond.classLink "GrindingCircuit$Simulation" (9 : Nat) "GrindingCircuit$Lot" ∈ gt := gt_of (List.mem_of_getElem? (i := 71) (by decide +kernel)) (by decide +kernel)
theorem mw_73 : Cond.instantiable "GrindingCircuit$Lot" (5 : Nat) ∈ gt := gt_of (List.mem_of_getElem? (i := 73) (by decide +kernel)) (by decide +kernel)
theorem mw_75 : Cond.instanceMethod (⟨"GrindingCircuit$Lot", "<init>", "()V"⟩ : MethodName) ∈ gt := gt_of (List.mem_of_getElem? (i := 75) (by decide +kernel)) (by decide +kernel)
theorem mw_76 : Cond.code (⟨"GrindingCircuit$Lot", "<init>", "()V"⟩ : MethodName) prog_2_method_1_code (1 : Nat) (Option.none : Option FieldType) ∈ gt := gt_of (List.mem_of_getElem? (i := 76) (by decide +kernel)) (by decide +kernel)
theorem mw_77 : Cond.methodLink "GrindingCircuit$Lot" (3 : Nat) (⟨"java/lang/Object", "<init>", "()V"⟩ : MethodName) ∈ gt := gt_of (List.mem_of_getElem? (i := 77) (by decide +kernel)) (by decide +kernel)
theorem mw_78 : Cond.fieldLink "GrindingCircuit$Lot" (9 : Nat) "GrindingCircuit$Lot" "masses" "[I" ∈ gt := gt_of (List.mem_of_getElem? (i := 78) (by decide +kernel)) (by decide +kernel)
theorem mw_79 : Cond.fieldLink "GrindingCircuit$Simulation" (58 : Nat) "GrindingCircuit$Lot" "masses" "[I" ∈ gt := gt_of (List.mem_of_getElem? (i := 79) (by decide +kernel)) (by decide +kernel)
theorem mw_80 : Cond.fieldLink "GrindingCircuit" (195 : Nat) "GrindingCircuit$Lot" "masses" "[I" ∈ gt := gt_of (List.mem_of_getElem? (i := 80) (by decide +kernel)) (by decide +kernel)
theorem mw_81 : Cond.fieldLink "GrindingCircuit$Lot" (21 : Nat) "GrindingCircuit$Lot" "place" "I" ∈ gt := gt_of (List.mem_of_getElem? (i := 81) (by decide +kernel)) (by decide +kernel)
theorem mw_82 : Cond.fieldLink "GrindingCircuit$Simulation" (64 : Nat) "GrindingCircuit$Lot" "place" "I" ∈ gt := gt_of (List.mem_of_getElem? (i := 82) (by decide +kernel)) (by decide +kernel)
theorem mw_83 : Cond.fieldLink "GrindingCircuit" (190 : Nat) "GrindingCircuit$Lot" "place" "I" ∈ gt := gt_of (List.mem_of_getElem? (i := 83) (by decide +kernel)) (by decide +kernel)
theorem mw_84 : Cond.fieldLink "GrindingCircuit$Lot" (25 : Nat) "GrindingCircuit$Lot" "comesAt" "I" ∈ gt := gt_of (List.mem_of_getElem? (i := 84) (by decide +kernel)) (by decide +kernel)
theorem mw_85 : Cond.fieldLink "GrindingCircuit$Simulation" (67 : Nat) "GrindingCircuit$Lot" "comesAt" "I" ∈ gt := gt_of (List.mem_of_getElem? (i := 85) (by decide +kernel)) (by decide +kernel)
theorem mw_86 : Cond.fieldLink "GrindingCircuit$Lot" (28 : Nat) "GrindingCircuit$Lot" "arrival" "I" ∈ gt := gt_of (List.mem_of_getElem? (i := 86) (by decide +kernel)) (by decide +kernel)
theorem mw_87 : Cond.fieldLink "GrindingCircuit$Simulation" (70 : Nat) "GrindingCircuit$Lot" "arrival" "I" ∈ gt := gt_of (List.mem_of_getElem? (i := 87) (by decide +kernel)) (by decide +kernel)
theorem mw_88 : Cond.fieldLink "GrindingCircuit$Lot" (31 : Nat) "GrindingCircuit$Lot" "timesGround" "I" ∈ gt := gt_of (List.mem_of_getElem? (i := 88) (by decide +kernel)) (by decide +kernel)
theorem mw_89 : Cond.fieldLink "GrindingCircuit$Simulation" (61 : Nat) "GrindingCircuit$Lot" "timesGround" "I" ∈ gt := gt_of (List.mem_of_getElem? (i := 89) (by decide +kernel)) (by decide +kernel)
theorem mw_90 : Cond.fieldLink "GrindingCircuit" (202 : Nat) "GrindingCircuit$Lot" "timesGround" "I" ∈ gt := gt_of (List.mem_of_getElem? (i := 90) (by decide +kernel)) (by decide +kernel)
theorem mw_91 : Cond.laysFinal "GrindingCircuit$Lot" "GrindingCircuit$Lot" "masses" "[I" ∈ gt := gt_of (List.mem_of_getElem? (i := 91) (by decide +kernel)) (by decide +kernel)
theorem mw_93 : Cond.lays "GrindingCircuit$Lot" "GrindingCircuit$Lot" "place" "I" ∈ gt := gt_of (List.mem_of_getElem? (i := 93) (by decide +kernel)) (by decide +kernel)
theorem mw_95 : Cond.lays "GrindingCircuit$Lot" "GrindingCircuit$Lot" "comesAt" "I" ∈ gt := gt_of (List.mem_of_getElem? (i := 95) (by decide +kernel)) (by decide +kernel)
theorem mw_97 : Cond.lays "GrindingCircuit$Lot" "GrindingCircuit$Lot" "arrival" "I" ∈ gt := gt_of (List.mem_of_getElem? (i := 97) (by decide +kernel)) (by decide +kernel)
theorem mw_99 : Cond.lays "GrindingCircuit$Lot" "GrindingCircuit$Lot" "timesGround" "I" ∈ gt := gt_of (List.mem_of_getElem? (i := 99) (by decide +kernel)) (by decide +kernel)
theorem mw_102 : Cond.fieldLink "GrindingCircuit$Simulation" (11 : Nat) "GrindingCircuit$Simulation" "lots" "[LGrindingCircuit$Lot;" ∈ gt := gt_of (List.mem_of_getElem? (i := 102) (by decide +kernel)) (by decide +kernel)
theorem mw_103 : Cond.fieldLink "GrindingCircuit" (142 : Nat) "GrindingCircuit$Simulation" "lots" "[LGrindingCircuit$Lot;" ∈ gt := gt_of (List.mem_of_getElem? (i := 103) (by decide +kernel)) (by decide +kernel)
theorem mw_104 : Cond.fieldLink "GrindingCircuit$Simulation" (17 : Nat) "GrindingCircuit$Simulation" "productMasses" "[I" ∈ gt := gt_of (List.mem_of_getElem? (i := 104) (by decide +kernel)) (by decide +kernel)
theorem mw_105 : Cond.fieldLink "GrindingCircuit" (205 : Nat) "GrindingCircuit$Simulation" "productMasses" "[I" ∈ gt := gt_of (List.mem_of_getElem? (i := 105) (by decide +kernel)) (by decide +kernel)
theorem mw_106 : Cond.fieldLink "GrindingCircuit$Simulation" (26 : Nat) "GrindingCircuit$Simulation" "lotCount" "I" ∈ gt := gt_of (List.mem_of_getElem? (i := 106) (by decide +kernel)) (by decide +kernel)
theorem mw_107 : Cond.fieldLink "GrindingCircuit" (208 : Nat) "GrindingCircuit$Simulation" "lotCount" "I" ∈ gt := gt_of (List.mem_of_getElem? (i := 107) (by decide +kernel)) (by decide +kernel)
theorem mw_108 : Cond.fieldLink "GrindingCircuit$Simulation" (39 : Nat) "GrindingCircuit$Simulation" "time" "I" ∈ gt := gt_of (List.mem_of_getElem? (i := 108) (by decide +kernel)) (by decide +kernel)
theorem mw_109 : Cond.fieldLink "GrindingCircuit" (162 : Nat) "GrindingCircuit$Simulation" "time" "I" ∈ gt := gt_of (List.mem_of_getElem? (i := 109) (by decide +kernel)) (by decide +kernel)
theorem mw_110 : Cond.fieldLink "GrindingCircuit$Simulation" (42 : Nat) "GrindingCircuit$Simulation" "arrivals" "I" ∈ gt := gt_of (List.mem_of_getElem? (i := 110) (by decide +kernel)) (by decide +kernel)
theorem mw_111 : Cond.fieldLink "GrindingCircuit$Simulation" (21 : Nat) "GrindingCircuit$Simulation" "ground" "I" ∈ gt := gt_of (List.mem_of_getElem? (i := 111) (by decide +kernel)) (by decide +kernel)
theorem mw_112 : Cond.fieldLink "GrindingCircuit" (184 : Nat) "GrindingCircuit$Simulation" "ground" "I" ∈ gt := gt_of (List.mem_of_getElem? (i := 112) (by decide +kernel)) (by decide +kernel)
theorem mw_113 : Cond.fieldLink "GrindingCircuit$Simulation" (45 : Nat) "GrindingCircuit$Simulation" "finishTime" "I" ∈ gt := gt_of (List.mem_of_getElem? (i := 113) (by decide +kernel)) (by decide +kernel)
theorem mw_114 : Cond.fieldLink "GrindingCircuit" (187 : Nat) "GrindingCircuit$Simulation" "finishTime" "I" ∈ gt := gt_of (List.mem_of_getElem? (i := 114) (by decide +kernel)) (by decide +kernel)
theorem mw_115 : Cond.fieldLink "GrindingCircuit$Simulation" (48 : Nat) "GrindingCircuit$Simulation" "energy" "I" ∈ gt := gt_of (List.mem_of_getElem? (i := 115) (by decide +kernel)) (by decide +kernel)
theorem mw_116 : Cond.fieldLink "GrindingCircuit" (211 : Nat) "GrindingCircuit$Simulation" "energy" "I" ∈ gt := gt_of (List.mem_of_getElem? (i := 116) (by decide +kernel)) (by decide +kernel)
theorem mw_117 : Cond.fieldLink "GrindingCircuit$Simulation" (51 : Nat) "GrindingCircuit$Simulation" "returnedMass" "I" ∈ gt := gt_of (List.mem_of_getElem? (i := 117) (by decide +kernel)) (by decide +kernel)
theorem mw_118 : Cond.fieldLink "GrindingCircuit" (214 : Nat) "GrindingCircuit$Simulation" "returnedMass" "I" ∈ gt := gt_of (List.mem_of_getElem? (i := 118) (by decide +kernel)) (by decide +kernel)
theorem mw_119 : Cond.laysFinal "GrindingCircuit$Simulation" "GrindingCircuit$Simulation" "lots" "[LGrindingCircuit$Lot;" ∈ gt := gt_of (List.mem_of_getElem? (i := 119) (by decide +kernel)) (by decide +kernel)
theorem mw_121 : Cond.laysFinal "GrindingCircuit$Simulation" "GrindingCircuit$Simulation" "productMasses" "[I" ∈ gt := gt_of (List.mem_of_getElem? (i := 121) (by decide +kernel)) (by decide +kernel)
theorem mw_123 : Cond.lays "GrindingCircuit$Simulation" "GrindingCircuit$Simulation" "lotCount" "I" ∈ gt := gt_of (List.mem_of_getElem? (i := 123) (by decide +kernel)) (by decide +kernel)
theorem mw_125 : Cond.lays "GrindingCircuit$Simulation" "GrindingCircuit$Simulation" "time" "I" ∈ gt := gt_of (List.mem_of_getElem? (i := 125) (by decide +kernel)) (by decide +kernel)
theorem mw_127 : Cond.lays "GrindingCircuit$Simulation" "GrindingCircuit$Simulation" "arrivals" "I" ∈ gt := gt_of (List.mem_of_getElem? (i := 127) (by decide +kernel)) (by decide +kernel)
theorem mw_129 : Cond.lays "GrindingCircuit$Simulation" "GrindingCircuit$Simulation" "ground" "I" ∈ gt := gt_of (List.mem_of_getElem? (i := 129) (by decide +kernel)) (by decide +kernel)
theorem mw_131 : Cond.lays "GrindingCircuit$Simulation" "GrindingCircuit$Simulation" "finishTime" "I" ∈ gt := gt_of (List.mem_of_getElem? (i := 131) (by decide +kernel)) (by decide +kernel)
theorem mw_133 : Cond.lays "GrindingCircuit$Simulation" "GrindingCircuit$Simulation" "energy" "I" ∈ gt := gt_of (List.mem_of_getElem? (i := 133) (by decide +kernel)) (by decide +kernel)
theorem mw_135 : Cond.lays "GrindingCircuit$Simulation" "GrindingCircuit$Simulation" "returnedMass" "I" ∈ gt := gt_of (List.mem_of_getElem? (i := 135) (by decide +kernel)) (by decide +kernel)
theorem mw_138 : Cond.fieldLink "GrindingCircuit$Plant" (10 : Nat) "GrindingCircuit$Plant" "settings" "LGrindingCircuit$Settings;" ∈ gt := gt_of (List.mem_of_getElem? (i := 138) (by decide +kernel)) (by decide +kernel)
theorem mw_139 : Cond.fieldLink "GrindingCircuit" (39 : Nat) "GrindingCircuit$Plant" "settings" "LGrindingCircuit$Settings;" ∈ gt := gt_of (List.mem_of_getElem? (i := 139) (by decide +kernel)) (by decide +kernel)
theorem mw_140 : Cond.fieldLink "GrindingCircuit$Plant" (19 : Nat) "GrindingCircuit$Plant" "simulation" "LGrindingCircuit$Simulation;" ∈ gt := gt_of (List.mem_of_getElem? (i := 140) (by decide +kernel)) (by decide +kernel)
theorem mw_141 : Cond.fieldLink "GrindingCircuit" (129 : Nat) "GrindingCircuit$Plant" "simulation" "LGrindingCircuit$Simulation;" ∈ gt := gt_of (List.mem_of_getElem? (i := 141) (by decide +kernel)) (by decide +kernel)
theorem mw_142 : Cond.laysFinal "GrindingCircuit$Plant" "GrindingCircuit$Plant" "settings" "LGrindingCircuit$Settings;" ∈ gt := gt_of (List.mem_of_getElem? (i := 142) (by decide +kernel)) (by decide +kernel)
theorem mw_144 : Cond.laysFinal "GrindingCircuit$Plant" "GrindingCircuit$Plant" "simulation" "LGrindingCircuit$Simulation;" ∈ gt := gt_of (List.mem_of_getElem? (i := 144) (by decide +kernel)) (by decide +kernel)
theorem mw_148 : Cond.classLink "GrindingCircuit" (24 : Nat) "GrindingCircuit$SteadyState" ∈ gt := gt_of (List.mem_of_getElem? (i := 148) (by decide +kernel)) (by decide +kernel)
theorem mw_149 : Cond.instantiable "GrindingCircuit$SteadyState" (4 : Nat) ∈ gt := gt_of (List.mem_of_getElem? (i := 149) (by decide +kernel)) (by decide +kernel)
theorem mw_151 : Cond.instanceMethod (⟨"GrindingCircuit$SteadyState", "<init>", "()V"⟩ : MethodName) ∈ gt := gt_of (List.mem_of_getElem? (i := 151) (by decide +kernel)) (by decide +kernel)
theorem mw_152 : Cond.code (⟨"GrindingCircuit$SteadyState", "<init>", "()V"⟩ : MethodName) prog_6_method_1_code (1 : Nat) (Option.none : Option FieldType) ∈ gt := gt_of (List.mem_of_getElem? (i := 152) (by decide +kernel)) (by decide +kernel)
theorem mw_153 : Cond.methodLink "GrindingCircuit$SteadyState" (3 : Nat) (⟨"java/lang/Object", "<init>", "()V"⟩ : MethodName) ∈ gt := gt_of (List.mem_of_getElem? (i := 153) (by decide +kernel)) (by decide +kernel)
theorem mw_154 : Cond.fieldLink "GrindingCircuit$SteadyState" (9 : Nat) "GrindingCircuit$SteadyState" "loads" "[J" ∈ gt := gt_of (List.mem_of_getElem? (i := 154) (by decide +kernel)) (by decide +kernel)
theorem mw_155 : Cond.fieldLink "GrindingCircuit" (84 : Nat) "GrindingCircuit$SteadyState" "loads" "[J" ∈ gt := gt_of (List.mem_of_getElem? (i := 155) (by decide +kernel)) (by decide +kernel)
theorem mw_156 : Cond.fieldLink "GrindingCircuit$SteadyState" (15 : Nat) "GrindingCircuit$SteadyState" "cutReturns" "[I" ∈ gt := gt_of (List.mem_of_getElem? (i := 156) (by decide +kernel)) (by decide +kernel)
theorem mw_157 : Cond.fieldLink "GrindingCircuit$SteadyState" (19 : Nat) "GrindingCircuit$SteadyState" "scale" "J" ∈ gt := gt_of (List.mem_of_getElem? (i := 157) (by decide +kernel)) (by decide +kernel)
theorem mw_158 : Cond.fieldLink "GrindingCircuit" (88 : Nat) "GrindingCircuit$SteadyState" "scale" "J" ∈ gt := gt_of (List.mem_of_getElem? (i := 158) (by decide +kernel)) (by decide +kernel)
theorem mw_159 : Cond.fieldLink "GrindingCircuit$SteadyState" (23 : Nat) "GrindingCircuit$SteadyState" "exists" "Z" ∈ gt := gt_of (List.mem_of_getElem? (i := 159) (by decide +kernel)) (by decide +kernel)
theorem mw_160 : Cond.fieldLink "GrindingCircuit" (78 : Nat) "GrindingCircuit$SteadyState" "exists" "Z" ∈ gt := gt_of (List.mem_of_getElem? (i := 160) (by decide +kernel)) (by decide +kernel)
theorem mw_161 : Cond.laysFinal "GrindingCircuit$SteadyState" "GrindingCircuit$SteadyState" "loads" "[J" ∈ gt := gt_of (List.mem_of_getElem? (i := 161) (by decide +kernel)) (by decide +kernel)
theorem mw_163 : Cond.laysFinal "GrindingCircuit$SteadyState" "GrindingCircuit$SteadyState" "cutReturns" "[I" ∈ gt := gt_of (List.mem_of_getElem? (i := 163) (by decide +kernel)) (by decide +kernel)
theorem mw_165 : Cond.lays "GrindingCircuit$SteadyState" "GrindingCircuit$SteadyState" "scale" "J" ∈ gt := gt_of (List.mem_of_getElem? (i := 165) (by decide +kernel)) (by decide +kernel)
theorem mw_167 : Cond.lays "GrindingCircuit$SteadyState" "GrindingCircuit$SteadyState" "exists" "Z" ∈ gt := gt_of (List.mem_of_getElem? (i := 167) (by decide +kernel)) (by decide +kernel)
theorem mw_170 : Cond.arrayClass FieldType.boolean ∈ gt := gt_of (List.mem_of_getElem? (i := 170) (by decide +kernel)) (by decide +kernel)
theorem mw_171 : Cond.arrayClass FieldType.long ∈ gt := gt_of (List.mem_of_getElem? (i := 171) (by decide +kernel)) (by decide +kernel)
theorem mw_172 : Cond.fieldLink "GrindingCircuit" (10 : Nat) "GrindingCircuit" "plant" "LGrindingCircuit$Plant;" ∈ gt := gt_of (List.mem_of_getElem? (i := 172) (by decide +kernel)) (by decide +kernel)
theorem mw_173 : Cond.fieldLink "GrindingCircuit" (16 : Nat) "GrindingCircuit" "slots" "[LGrindingCircuit$Plant;" ∈ gt := gt_of (List.mem_of_getElem? (i := 173) (by decide +kernel)) (by decide +kernel)
theorem mw_174 : Cond.fieldLink "GrindingCircuit" (20 : Nat) "GrindingCircuit" "slotFilled" "[Z" ∈ gt := gt_of (List.mem_of_getElem? (i := 174) (by decide +kernel)) (by decide +kernel)
theorem mw_175 : Cond.fieldLink "GrindingCircuit" (27 : Nat) "GrindingCircuit" "steady" "LGrindingCircuit$SteadyState;" ∈ gt := gt_of (List.mem_of_getElem? (i := 175) (by decide +kernel)) (by decide +kernel)
theorem mw_176 : Cond.laysFinal "GrindingCircuit" "GrindingCircuit" "plant" "LGrindingCircuit$Plant;" ∈ gt := gt_of (List.mem_of_getElem? (i := 176) (by decide +kernel)) (by decide +kernel)
theorem mw_178 : Cond.laysFinal "GrindingCircuit" "GrindingCircuit" "slots" "[LGrindingCircuit$Plant;" ∈ gt := gt_of (List.mem_of_getElem? (i := 178) (by decide +kernel)) (by decide +kernel)
theorem mw_180 : Cond.laysFinal "GrindingCircuit" "GrindingCircuit" "slotFilled" "[Z" ∈ gt := gt_of (List.mem_of_getElem? (i := 180) (by decide +kernel)) (by decide +kernel)
theorem mw_182 : Cond.laysFinal "GrindingCircuit" "GrindingCircuit" "steady" "LGrindingCircuit$SteadyState;" ∈ gt := gt_of (List.mem_of_getElem? (i := 182) (by decide +kernel)) (by decide +kernel)
theorem mw_185 : Cond.methodLink "GrindingCircuitLaw" (13 : Nat) (⟨"GrindingCircuit", "setBreakage", "(IIII)I"⟩ : MethodName) ∈ gt := gt_of (List.mem_of_getElem? (i := 185) (by decide +kernel)) (by decide +kernel)
theorem mw_186 : Cond.instanceMethod (⟨"GrindingCircuit", "setBreakage", "(IIII)I"⟩ : MethodName) ∈ gt := gt_of (List.mem_of_getElem? (i := 186) (by decide +kernel)) (by decide +kernel)
theorem mw_187 : Cond.selects "GrindingCircuit" (⟨"GrindingCircuit", "setBreakage", "(IIII)I"⟩ : MethodName) (⟨"GrindingCircuit", "setBreakage", "(IIII)I"⟩ : MethodName) ∈ gt := gt_of (List.mem_of_getElem? (i := 187) (by decide +kernel)) (by decide +kernel)
theorem mw_188 : Cond.code (⟨"GrindingCircuit", "setBreakage", "(IIII)I"⟩ : MethodName) prog_1_method_2_code (7 : Nat) (Option.some FieldType.int) ∈ gt := gt_of (List.mem_of_getElem? (i := 188) (by decide +kernel)) (by decide +kernel)
theorem mw_189 : Cond.methodLink "GrindingCircuit" (31 : Nat) (⟨"GrindingCircuit", "isSize", "(I)Z"⟩ : MethodName) ∈ gt := gt_of (List.mem_of_getElem? (i := 189) (by decide +kernel)) (by decide +kernel)
theorem mw_190 : Cond.static (⟨"GrindingCircuit", "isSize", "(I)Z"⟩ : MethodName) ∈ gt := gt_of (List.mem_of_getElem? (i := 190) (by decide +kernel)) (by decide +kernel)
theorem mw_191 : Cond.code (⟨"GrindingCircuit", "isSize", "(I)Z"⟩ : MethodName) prog_1_method_28_code (1 : Nat) (Option.some FieldType.boolean) ∈ gt := gt_of (List.mem_of_getElem? (i := 191) (by decide +kernel)) (by decide +kernel)
theorem mw_192 : Cond.methodLink "GrindingCircuit" (116 : Nat) (⟨"GrindingCircuit", "isWithin", "(III)Z"⟩ : MethodName) ∈ gt := gt_of (List.mem_of_getElem? (i := 192) (by decide +kernel)) (by decide +kernel)
theorem mw_193 : Cond.static (⟨"GrindingCircuit", "isWithin", "(III)Z"⟩ : MethodName) ∈ gt := gt_of (List.mem_of_getElem? (i := 193) (by decide +kernel)) (by decide +kernel)
theorem mw_194 : Cond.code (⟨"GrindingCircuit", "isWithin", "(III)Z"⟩ : MethodName) prog_1_method_27_code (3 : Nat) (Option.some FieldType.boolean) ∈ gt := gt_of (List.mem_of_getElem? (i := 194) (by decide +kernel)) (by decide +kernel)
theorem mw_195 : Cond.methodLink "GrindingCircuit" (35 : Nat) (⟨"GrindingCircuit", "isShareTo", "(II)Z"⟩ : MethodName) ∈ gt := gt_of (List.mem_of_getElem? (i := 195) (by decide +kernel)) (by decide +kernel)
theorem mw_196 : Cond.static (⟨"GrindingCircuit", "isShareTo", "(II)Z"⟩ : MethodName) ∈ gt := gt_of (List.mem_of_getElem? (i := 196) (by decide +kernel)) (by decide +kernel)
theorem mw_197 : Cond.code (⟨"GrindingCircuit", "isShareTo", "(II)Z"⟩ : MethodName) prog_1_method_31_code (2 : Nat) (Option.some FieldType.boolean) ∈ gt := gt_of (List.mem_of_getElem? (i := 197) (by decide +kernel)) (by decide +kernel)
theorem mw_198 : Cond.methodLink "GrindingCircuit" (43 : Nat) (⟨"GrindingCircuit$Settings", "putShare", "(III)V"⟩ : MethodName) ∈ gt := gt_of (List.mem_of_getElem? (i := 198) (by decide +kernel)) (by decide +kernel)
theorem mw_199 : Cond.instanceMethod (⟨"GrindingCircuit$Settings", "putShare", "(III)V"⟩ : MethodName) ∈ gt := gt_of (List.mem_of_getElem? (i := 199) (by decide +kernel)) (by decide +kernel)
theorem mw_200 : Cond.selects "GrindingCircuit$Settings" (⟨"GrindingCircuit$Settings", "putShare", "(III)V"⟩ : MethodName) (⟨"GrindingCircuit$Settings", "putShare", "(III)V"⟩ : MethodName) ∈ gt := gt_of (List.mem_of_getElem? (i := 200) (by decide +kernel)) (by decide +kernel)
theorem mw_201 : Cond.code (⟨"GrindingCircuit$Settings", "putShare", "(III)V"⟩ : MethodName) prog_4_method_2_code (4 : Nat) (Option.none : Option FieldType) ∈ gt := gt_of (List.mem_of_getElem? (i := 201) (by decide +kernel)) (by decide +kernel)
theorem mw_203 : Cond.methodLink "GrindingCircuitLaw" (18 : Nat) (⟨"GrindingCircuit", "share", "(II)I"⟩ : MethodName) ∈ gt := gt_of (List.mem_of_getElem? (i := 203) (by decide +kernel)) (by decide +kernel)
theorem mw_204 : Cond.instanceMethod (⟨"GrindingCircuit", "share", "(II)I"⟩ : MethodName) ∈ gt := gt_of (List.mem_of_getElem? (i := 204) (by decide +kernel)) (by decide +kernel)
theorem mw_205 : Cond.selects "GrindingCircuit" (⟨"GrindingCircuit", "share", "(II)I"⟩ : MethodName) (⟨"GrindingCircuit", "share", "(II)I"⟩ : MethodName) ∈ gt := gt_of (List.mem_of_getElem? (i := 205) (by decide +kernel)) (by decide +kernel)
theorem mw_206 : Cond.code (⟨"GrindingCircuit", "share", "(II)I"⟩ : MethodName) prog_1_method_3_code (3 : Nat) (Option.some FieldType.int) ∈ gt := gt_of (List.mem_of_getElem? (i := 206) (by decide +kernel)) (by decide +kernel)
theorem mw_207 : Cond.methodLink "GrindingCircuitLaw" (23 : Nat) (⟨"GrindingCircuit", "setReturn", "(II)I"⟩ : MethodName) ∈ gt := gt_of (List.mem_of_getElem? (i := 207) (by decide +kernel)) (by decide +kernel)
theorem mw_208 : Cond.instanceMethod (⟨"GrindingCircuit", "setReturn", "(II)I"⟩ : MethodName) ∈ gt := gt_of (List.mem_of_getElem? (i := 208) (by decide +kernel)) (by decide +kernel)
theorem mw_209 : Cond.selects "GrindingCircuit" (⟨"GrindingCircuit", "setReturn", "(II)I"⟩ : MethodName) (⟨"GrindingCircuit", "setReturn", "(II)I"⟩ : MethodName) ∈ gt := gt_of (List.mem_of_getElem? (i := 209) (by decide +kernel)) (by decide +kernel)
theorem mw_210 : Cond.code (⟨"GrindingCircuit", "setReturn", "(II)I"⟩ : MethodName) prog_1_method_4_code (3 : Nat) (Option.some FieldType.int) ∈ gt := gt_of (List.mem_of_getElem? (i := 210) (by decide +kernel)) (by decide +kernel)
theorem mw_211 : Cond.methodLink "GrindingCircuit" (57 : Nat) (⟨"GrindingCircuit", "exchange", "([IIII)I"⟩ : MethodName) ∈ gt := gt_of (List.mem_of_getElem? (i := 211) (by decide +kernel)) (by decide +kernel)
theorem mw_212 : Cond.static (⟨"GrindingCircuit", "exchange", "([IIII)I"⟩ : MethodName) ∈ gt := gt_of (List.mem_of_getElem? (i := 212) (by decide +kernel)) (by decide +kernel)
theorem mw_213 : Cond.code (⟨"GrindingCircuit", "exchange", "([IIII)I"⟩ : MethodName) prog_1_method_34_code (5 : Nat) (Option.some FieldType.int) ∈ gt := gt_of (List.mem_of_getElem? (i := 213) (by decide +kernel)) (by decide +kernel)
theorem mw_214 : Cond.methodLink "GrindingCircuitLaw" (27 : Nat) (⟨"GrindingCircuit", "setWork", "(II)I"⟩ : MethodName) ∈ gt := gt_of (List.mem_of_getElem? (i := 214) (by decide +kernel)) (by decide +kernel)
theorem mw_215 : Cond.instanceMethod (⟨"GrindingCircuit", "setWork", "(II)I"⟩ : MethodName) ∈ gt := gt_of (List.mem_of_getElem? (i := 215) (by decide +kernel)) (by decide +kernel)
theorem mw_216 : Cond.selects "GrindingCircuit" (⟨"GrindingCircuit", "setWork", "(II)I"⟩ : MethodName) (⟨"GrindingCircuit", "setWork", "(II)I"⟩ : MethodName) ∈ gt := gt_of (List.mem_of_getElem? (i := 216) (by decide +kernel)) (by decide +kernel)
theorem mw_217 : Cond.code (⟨"GrindingCircuit", "setWork", "(II)I"⟩ : MethodName) prog_1_method_5_code (3 : Nat) (Option.some FieldType.int) ∈ gt := gt_of (List.mem_of_getElem? (i := 217) (by decide +kernel)) (by decide +kernel)
theorem mw_218 : Cond.methodLink "GrindingCircuitLaw" (31 : Nat) (⟨"GrindingCircuit", "setFeed", "(II)I"⟩ : MethodName) ∈ gt := gt_of (List.mem_of_getElem? (i := 218) (by decide +kernel)) (by decide +kernel)
theorem mw_219 : Cond.instanceMethod (⟨"GrindingCircuit", "setFeed", "(II)I"⟩ : MethodName) ∈ gt := gt_of (List.mem_of_getElem? (i := 219) (by decide +kernel)) (by decide +kernel)
theorem mw_220 : Cond.selects "GrindingCircuit" (⟨"GrindingCircuit", "setFeed", "(II)I"⟩ : MethodName) (⟨"GrindingCircuit", "setFeed", "(II)I"⟩ : MethodName) ∈ gt := gt_of (List.mem_of_getElem? (i := 220) (by decide +kernel)) (by decide +kernel)
theorem mw_221 : Cond.code (⟨"GrindingCircuit", "setFeed", "(II)I"⟩ : MethodName) prog_1_method_6_code (3 : Nat) (Option.some FieldType.int) ∈ gt := gt_of (List.mem_of_getElem? (i := 221) (by decide +kernel)) (by decide +kernel)
theorem mw_222 : Cond.methodLink "GrindingCircuitLaw" (35 : Nat) (⟨"GrindingCircuit", "load", "(II)J"⟩ : MethodName) ∈ gt := gt_of (List.mem_of_getElem? (i := 222) (by decide +kernel)) (by decide +kernel)
theorem mw_223 : Cond.instanceMethod (⟨"GrindingCircuit", "load", "(II)J"⟩ : MethodName) ∈ gt := gt_of (List.mem_of_getElem? (i := 223) (by decide +kernel)) (by decide +kernel)
theorem mw_224 : Cond.selects "GrindingCircuit" (⟨"GrindingCircuit", "load", "(II)J"⟩ : MethodName) (⟨"GrindingCircuit", "load", "(II)J"⟩ : MethodName) ∈ gt := gt_of (List.mem_of_getElem? (i := 224) (by decide +kernel)) (by decide +kernel)
theorem mw_225 : Cond.code (⟨"GrindingCircuit", "load", "(II)J"⟩ : MethodName) prog_1_method_7_code (3 : Nat) (Option.some FieldType.long) ∈ gt := gt_of (List.mem_of_getElem? (i := 225) (by decide +kernel)) (by decide +kernel)
theorem mw_226 : Cond.constantLong "GrindingCircuit" (67 : Nat) (-1 : Int64) ∈ gt := gt_of (List.mem_of_getElem? (i := 226) (by decide +kernel)) (by decide +kernel)
theorem mw_227 : Cond.methodLink "GrindingCircuit" (69 : Nat) (⟨"GrindingCircuit", "isZeroOrOne", "(I)Z"⟩ : MethodName) ∈ gt := gt_of (List.mem_of_getElem? (i := 227) (by decide +kernel)) (by decide +kernel)
theorem mw_228 : Cond.static (⟨"GrindingCircuit", "isZeroOrOne", "(I)Z"⟩ : MethodName) ∈ gt := gt_of (List.mem_of_getElem? (i := 228) (by decide +kernel)) (by decide +kernel)
theorem mw_229 : Cond.code (⟨"GrindingCircuit", "isZeroOrOne", "(I)Z"⟩ : MethodName) prog_1_method_29_code (1 : Nat) (Option.some FieldType.boolean) ∈ gt := gt_of (List.mem_of_getElem? (i := 229) (by decide +kernel)) (by decide +kernel)
theorem mw_230 : Cond.constantLong "GrindingCircuit" (72 : Nat) (-3 : Int64) ∈ gt := gt_of (List.mem_of_getElem? (i := 230) (by decide +kernel)) (by decide +kernel)
theorem mw_231 : Cond.methodLink "GrindingCircuit" (74 : Nat) (⟨"GrindingCircuit$SteadyState", "solve", "(LGrindingCircuit$Settings;[I)V"⟩ : MethodName) ∈ gt := gt_of (List.mem_of_getElem? (i := 231) (by decide +kernel)) (by decide +kernel)
theorem mw_232 : Cond.instanceMethod (⟨"GrindingCircuit$SteadyState", "solve", "(LGrindingCircuit$Settings;[I)V"⟩ : MethodName) ∈ gt := gt_of (List.mem_of_getElem? (i := 232) (by decide +kernel)) (by decide +kernel)
theorem mw_233 : Cond.selects "GrindingCircuit$SteadyState" (⟨"GrindingCircuit$SteadyState", "solve", "(LGrindingCircuit$Settings;[I)V"⟩ : MethodName) (⟨"GrindingCircuit$SteadyState", "solve", "(LGrindingCircuit$Settings;[I)V"⟩ : MethodName) ∈ gt := gt_of (List.mem_of_getElem? (i := 233) (by decide +kernel)) (by decide +kernel)
theorem mw_234 : Cond.code (⟨"GrindingCircuit$SteadyState", "solve", "(LGrindingCircuit$Settings;[I)V"⟩ : MethodName) prog_6_method_3_code (4 : Nat) (Option.none : Option FieldType) ∈ gt := gt_of (List.mem_of_getElem? (i := 234) (by decide +kernel)) (by decide +kernel)
theorem mw_235 : Cond.methodLink "GrindingCircuit$SteadyState" (31 : Nat) (⟨"GrindingCircuit$SteadyState", "solveSize", "(LGrindingCircuit$Settings;II)V"⟩ : MethodName) ∈ gt := gt_of (List.mem_of_getElem? (i := 235) (by decide +kernel)) (by decide +kernel)
theorem mw_237 : Cond.instanceMethod (⟨"GrindingCircuit$SteadyState", "solveSize", "(LGrindingCircuit$Settings;II)V"⟩ : MethodName) ∈ gt := gt_of (List.mem_of_getElem? (i := 237) (by decide +kernel)) (by decide +kernel)
theorem mw_238 : Cond.code (⟨"GrindingCircuit$SteadyState", "solveSize", "(LGrindingCircuit$Settings;II)V"⟩ : MethodName) prog_6_method_4_code (9 : Nat) (Option.none : Option FieldType) ∈ gt := gt_of (List.mem_of_getElem? (i := 238) (by decide +kernel)) (by decide +kernel)
theorem mw_239 : Cond.methodLink "GrindingCircuit$SteadyState" (35 : Nat) (⟨"GrindingCircuit$SteadyState", "brokenInto", "(LGrindingCircuit$Settings;I)J"⟩ : MethodName) ∈ gt := gt_of (List.mem_of_getElem? (i := 239) (by decide +kernel)) (by decide +kernel)
theorem mw_240 : Cond.instanceMethod (⟨"GrindingCircuit$SteadyState", "brokenInto", "(LGrindingCircuit$Settings;I)J"⟩ : MethodName) ∈ gt := gt_of (List.mem_of_getElem? (i := 240) (by decide +kernel)) (by decide +kernel)
theorem mw_241 : Cond.selects "GrindingCircuit$SteadyState" (⟨"GrindingCircuit$SteadyState", "brokenInto", "(LGrindingCircuit$Settings;I)J"⟩ : MethodName) (⟨"GrindingCircuit$SteadyState", "brokenInto", "(LGrindingCircuit$Settings;I)J"⟩ : MethodName) ∈ gt := gt_of (List.mem_of_getElem? (i := 241) (by decide +kernel)) (by decide +kernel)
theorem mw_242 : Cond.code (⟨"GrindingCircuit$SteadyState", "brokenInto", "(LGrindingCircuit$Settings;I)J"⟩ : MethodName) prog_6_method_5_code (6 : Nat) (Option.some FieldType.long) ∈ gt := gt_of (List.mem_of_getElem? (i := 242) (by decide +kernel)) (by decide +kernel)
theorem mw_243 : Cond.constantLong "GrindingCircuit" (82 : Nat) (-5 : Int64) ∈ gt := gt_of (List.mem_of_getElem? (i := 243) (by decide +kernel)) (by decide +kernel)
theorem mw_244 : Cond.methodLink "GrindingCircuit" (92 : Nat) (⟨"GrindingCircuit", "partOf", "(JJI)J"⟩ : MethodName) ∈ gt := gt_of (List.mem_of_getElem? (i := 244) (by decide +kernel)) (by decide +kernel)
theorem mw_245 : Cond.static (⟨"GrindingCircuit", "partOf", "(JJI)J"⟩ : MethodName) ∈ gt := gt_of (List.mem_of_getElem? (i := 245) (by decide +kernel)) (by decide +kernel)
theorem mw_246 : Cond.code (⟨"GrindingCircuit", "partOf", "(JJI)J"⟩ : MethodName) prog_1_method_37_code (7 : Nat) (Option.some FieldType.long) ∈ gt := gt_of (List.mem_of_getElem? (i := 246) (by decide +kernel)) (by decide +kernel)
theorem mw_247 : Cond.methodLink "GrindingCircuit" (227 : Nat) (⟨"GrindingCircuit", "commonDivisor", "(JJ)J"⟩ : MethodName) ∈ gt := gt_of (List.mem_of_getElem? (i := 247) (by decide +kernel)) (by decide +kernel)
theorem mw_248 : Cond.static (⟨"GrindingCircuit", "commonDivisor", "(JJ)J"⟩ : MethodName) ∈ gt := gt_of (List.mem_of_getElem? (i := 248) (by decide +kernel)) (by decide +kernel)
theorem mw_249 : Cond.code (⟨"GrindingCircuit", "commonDivisor", "(JJ)J"⟩ : MethodName) prog_1_method_38_code (11 : Nat) (Option.some FieldType.long) ∈ gt := gt_of (List.mem_of_getElem? (i := 249) (by decide +kernel)) (by decide +kernel)
theorem mw_250 : Cond.methodLink "GrindingCircuit" (231 : Nat) (⟨"java/lang/Math", "max", "(JJ)J"⟩ : MethodName) ∈ gt := gt_of (List.mem_of_getElem? (i := 250) (by decide +kernel)) (by decide +kernel)
theorem mw_251 : Cond.static (⟨"java/lang/Math", "max", "(JJ)J"⟩ : MethodName) ∈ gt := gt_of (List.mem_of_getElem? (i := 251) (by decide +kernel)) (by decide +kernel)
theorem mw_252 : Cond.code (⟨"java/lang/Math", "max", "(JJ)J"⟩ : MethodName) prog_9_method_66_code (4 : Nat) (Option.some FieldType.long) ∈ gt := gt_of (List.mem_of_getElem? (i := 252) (by decide +kernel)) (by decide +kernel)
theorem mw_253 : Cond.methodLink "GrindingCircuitLaw" (40 : Nat) (⟨"GrindingCircuit", "product", "(II)J"⟩ : MethodName) ∈ gt := gt_of (List.mem_of_getElem? (i := 253) (by decide +kernel)) (by decide +kernel)
theorem mw_254 : Cond.instanceMethod (⟨"GrindingCircuit", "product", "(II)J"⟩ : MethodName) ∈ gt := gt_of (List.mem_of_getElem? (i := 254) (by decide +kernel)) (by decide +kernel)
theorem mw_255 : Cond.selects "GrindingCircuit" (⟨"GrindingCircuit", "product", "(II)J"⟩ : MethodName) (⟨"GrindingCircuit", "product", "(II)J"⟩ : MethodName) ∈ gt := gt_of (List.mem_of_getElem? (i := 255) (by decide +kernel)) (by decide +kernel)
theorem mw_256 : Cond.code (⟨"GrindingCircuit", "product", "(II)J"⟩ : MethodName) prog_1_method_8_code (8 : Nat) (Option.some FieldType.long) ∈ gt := gt_of (List.mem_of_getElem? (i := 256) (by decide +kernel)) (by decide +kernel)
theorem mw_257 : Cond.methodLink "GrindingCircuit" (96 : Nat) (⟨"GrindingCircuit$SteadyState", "brokenInto", "(LGrindingCircuit$Settings;I)J"⟩ : MethodName) ∈ gt := gt_of (List.mem_of_getElem? (i := 257) (by decide +kernel)) (by decide +kernel)
theorem mw_258 : Cond.constantLong "GrindingCircuit" (100 : Nat) (10 : Int64) ∈ gt := gt_of (List.mem_of_getElem? (i := 258) (by decide +kernel)) (by decide +kernel)
theorem mw_259 : Cond.methodLink "GrindingCircuitLaw" (44 : Nat) (⟨"GrindingCircuit", "circulatingLoad", "(I)J"⟩ : MethodName) ∈ gt := gt_of (List.mem_of_getElem? (i := 259) (by decide +kernel)) (by decide +kernel)
theorem mw_260 : Cond.instanceMethod (⟨"GrindingCircuit", "circulatingLoad", "(I)J"⟩ : MethodName) ∈ gt := gt_of (List.mem_of_getElem? (i := 260) (by decide +kernel)) (by decide +kernel)
theorem mw_261 : Cond.selects "GrindingCircuit" (⟨"GrindingCircuit", "circulatingLoad", "(I)J"⟩ : MethodName) (⟨"GrindingCircuit", "circulatingLoad", "(I)J"⟩ : MethodName) ∈ gt := gt_of (List.mem_of_getElem? (i := 261) (by decide +kernel)) (by decide +kernel)
theorem mw_262 : Cond.code (⟨"GrindingCircuit", "circulatingLoad", "(I)J"⟩ : MethodName) prog_1_method_9_code (4 : Nat) (Option.some FieldType.long) ∈ gt := gt_of (List.mem_of_getElem? (i := 262) (by decide +kernel)) (by decide +kernel)
theorem mw_263 : Cond.methodLink "GrindingCircuit" (102 : Nat) (⟨"GrindingCircuit", "sum", "([I)I"⟩ : MethodName) ∈ gt := gt_of (List.mem_of_getElem? (i := 263) (by decide +kernel)) (by decide +kernel)
theorem mw_264 : Cond.static (⟨"GrindingCircuit", "sum", "([I)I"⟩ : MethodName) ∈ gt := gt_of (List.mem_of_getElem? (i := 264) (by decide +kernel)) (by decide +kernel)
theorem mw_265 : Cond.code (⟨"GrindingCircuit", "sum", "([I)I"⟩ : MethodName) prog_1_method_36_code (6 : Nat) (Option.some FieldType.int) ∈ gt := gt_of (List.mem_of_getElem? (i := 265) (by decide +kernel)) (by decide +kernel)
theorem mw_266 : Cond.constantLong "GrindingCircuit" (106 : Nat) (-7 : Int64) ∈ gt := gt_of (List.mem_of_getElem? (i := 266) (by decide +kernel)) (by decide +kernel)
theorem mw_267 : Cond.methodLink "GrindingCircuit" (108 : Nat) (⟨"GrindingCircuit$SteadyState", "sumOfLoads", "()J"⟩ : MethodName) ∈ gt := gt_of (List.mem_of_getElem? (i := 267) (by decide +kernel)) (by decide +kernel)
theorem mw_268 : Cond.instanceMethod (⟨"GrindingCircuit$SteadyState", "sumOfLoads", "()J"⟩ : MethodName) ∈ gt := gt_of (List.mem_of_getElem? (i := 268) (by decide +kernel)) (by decide +kernel)
theorem mw_269 : Cond.selects "GrindingCircuit$SteadyState" (⟨"GrindingCircuit$SteadyState", "sumOfLoads", "()J"⟩ : MethodName) (⟨"GrindingCircuit$SteadyState", "sumOfLoads", "()J"⟩ : MethodName) ∈ gt := gt_of (List.mem_of_getElem? (i := 269) (by decide +kernel)) (by decide +kernel)
theorem mw_270 : Cond.code (⟨"GrindingCircuit$SteadyState", "sumOfLoads", "()J"⟩ : MethodName) prog_6_method_6_code (8 : Nat) (Option.some FieldType.long) ∈ gt := gt_of (List.mem_of_getElem? (i := 270) (by decide +kernel)) (by decide +kernel)
theorem mw_271 : Cond.methodLink "GrindingCircuitLaw" (49 : Nat) (⟨"GrindingCircuit", "power", "(I)J"⟩ : MethodName) ∈ gt := gt_of (List.mem_of_getElem? (i := 271) (by decide +kernel)) (by decide +kernel)
theorem mw_272 : Cond.instanceMethod (⟨"GrindingCircuit", "power", "(I)J"⟩ : MethodName) ∈ gt := gt_of (List.mem_of_getElem? (i := 272) (by decide +kernel)) (by decide +kernel)
theorem mw_273 : Cond.selects "GrindingCircuit" (⟨"GrindingCircuit", "power", "(I)J"⟩ : MethodName) (⟨"GrindingCircuit", "power", "(I)J"⟩ : MethodName) ∈ gt := gt_of (List.mem_of_getElem? (i := 273) (by decide +kernel)) (by decide +kernel)
theorem mw_274 : Cond.code (⟨"GrindingCircuit", "power", "(I)J"⟩ : MethodName) prog_1_method_10_code (2 : Nat) (Option.some FieldType.long) ∈ gt := gt_of (List.mem_of_getElem? (i := 274) (by decide +kernel)) (by decide +kernel)
theorem mw_275 : Cond.methodLink "GrindingCircuit" (112 : Nat) (⟨"GrindingCircuit$SteadyState", "scaledPower", "([I)J"⟩ : MethodName) ∈ gt := gt_of (List.mem_of_getElem? (i := 275) (by decide +kernel)) (by decide +kernel)
theorem mw_276 : Cond.instanceMethod (⟨"GrindingCircuit$SteadyState", "scaledPower", "([I)J"⟩ : MethodName) ∈ gt := gt_of (List.mem_of_getElem? (i := 276) (by decide +kernel)) (by decide +kernel)
theorem mw_277 : Cond.selects "GrindingCircuit$SteadyState" (⟨"GrindingCircuit$SteadyState", "scaledPower", "([I)J"⟩ : MethodName) (⟨"GrindingCircuit$SteadyState", "scaledPower", "([I)J"⟩ : MethodName) ∈ gt := gt_of (List.mem_of_getElem? (i := 277) (by decide +kernel)) (by decide +kernel)
theorem mw_278 : Cond.code (⟨"GrindingCircuit$SteadyState", "scaledPower", "([I)J"⟩ : MethodName) prog_6_method_7_code (5 : Nat) (Option.some FieldType.long) ∈ gt := gt_of (List.mem_of_getElem? (i := 278) (by decide +kernel)) (by decide +kernel)
theorem mw_279 : Cond.methodLink "GrindingCircuitLaw" (53 : Nat) (⟨"GrindingCircuit", "cutPower", "(II)J"⟩ : MethodName) ∈ gt := gt_of (List.mem_of_getElem? (i := 279) (by decide +kernel)) (by decide +kernel)
theorem mw_280 : Cond.instanceMethod (⟨"GrindingCircuit", "cutPower", "(II)J"⟩ : MethodName) ∈ gt := gt_of (List.mem_of_getElem? (i := 280) (by decide +kernel)) (by decide +kernel)
theorem mw_281 : Cond.selects "GrindingCircuit" (⟨"GrindingCircuit", "cutPower", "(II)J"⟩ : MethodName) (⟨"GrindingCircuit", "cutPower", "(II)J"⟩ : MethodName) ∈ gt := gt_of (List.mem_of_getElem? (i := 281) (by decide +kernel)) (by decide +kernel)
theorem mw_282 : Cond.code (⟨"GrindingCircuit", "cutPower", "(II)J"⟩ : MethodName) prog_1_method_11_code (3 : Nat) (Option.some FieldType.long) ∈ gt := gt_of (List.mem_of_getElem? (i := 282) (by decide +kernel)) (by decide +kernel)
theorem mw_283 : Cond.methodLink "GrindingCircuit" (120 : Nat) (⟨"GrindingCircuit$SteadyState", "solveCut", "(LGrindingCircuit$Settings;I)V"⟩ : MethodName) ∈ gt := gt_of (List.mem_of_getElem? (i := 283) (by decide +kernel)) (by decide +kernel)
theorem mw_284 : Cond.instanceMethod (⟨"GrindingCircuit$SteadyState", "solveCut", "(LGrindingCircuit$Settings;I)V"⟩ : MethodName) ∈ gt := gt_of (List.mem_of_getElem? (i := 284) (by decide +kernel)) (by decide +kernel)
theorem mw_285 : Cond.selects "GrindingCircuit$SteadyState" (⟨"GrindingCircuit$SteadyState", "solveCut", "(LGrindingCircuit$Settings;I)V"⟩ : MethodName) (⟨"GrindingCircuit$SteadyState", "solveCut", "(LGrindingCircuit$Settings;I)V"⟩ : MethodName) ∈ gt := gt_of (List.mem_of_getElem? (i := 285) (by decide +kernel)) (by decide +kernel)
theorem mw_286 : Cond.code (⟨"GrindingCircuit$SteadyState", "solveCut", "(LGrindingCircuit$Settings;I)V"⟩ : MethodName) prog_6_method_2_code (4 : Nat) (Option.none : Option FieldType) ∈ gt := gt_of (List.mem_of_getElem? (i := 286) (by decide +kernel)) (by decide +kernel)
theorem mw_287 : Cond.methodLink "GrindingCircuit$SteadyState" (27 : Nat) (⟨"GrindingCircuit$SteadyState", "solve", "(LGrindingCircuit$Settings;[I)V"⟩ : MethodName) ∈ gt := gt_of (List.mem_of_getElem? (i := 287) (by decide +kernel)) (by decide +kernel)
theorem mw_288 : Cond.methodLink "GrindingCircuitLaw" (57 : Nat) (⟨"GrindingCircuit", "finestCut", "(I)I"⟩ : MethodName) ∈ gt := gt_of (List.mem_of_getElem? (i := 288) (by decide +kernel)) (by decide +kernel)
theorem mw_289 : Cond.instanceMethod (⟨"GrindingCircuit", "finestCut", "(I)I"⟩ : MethodName) ∈ gt := gt_of (List.mem_of_getElem? (i := 289) (by decide +kernel)) (by decide +kernel)
theorem mw_290 : Cond.selects "GrindingCircuit" (⟨"GrindingCircuit", "finestCut", "(I)I"⟩ : MethodName) (⟨"GrindingCircuit", "finestCut", "(I)I"⟩ : MethodName) ∈ gt := gt_of (List.mem_of_getElem? (i := 290) (by decide +kernel)) (by decide +kernel)
theorem mw_291 : Cond.code (⟨"GrindingCircuit", "finestCut", "(I)I"⟩ : MethodName) prog_1_method_12_code (3 : Nat) (Option.some FieldType.int) ∈ gt := gt_of (List.mem_of_getElem? (i := 291) (by decide +kernel)) (by decide +kernel)
theorem mw_292 : Cond.constant "GrindingCircuit" (124 : Nat) (1000000000 : Int32) ∈ gt := gt_of (List.mem_of_getElem? (i := 292) (by decide +kernel)) (by decide +kernel)
theorem mw_293 : Cond.methodLink "GrindingCircuitLaw" (62 : Nat) (⟨"GrindingCircuit", "addLot", "(IIII)I"⟩ : MethodName) ∈ gt := gt_of (List.mem_of_getElem? (i := 293) (by decide +kernel)) (by decide +kernel)
theorem mw_294 : Cond.instanceMethod (⟨"GrindingCircuit", "addLot", "(IIII)I"⟩ : MethodName) ∈ gt := gt_of (List.mem_of_getElem? (i := 294) (by decide +kernel)) (by decide +kernel)
theorem mw_295 : Cond.selects "GrindingCircuit" (⟨"GrindingCircuit", "addLot", "(IIII)I"⟩ : MethodName) (⟨"GrindingCircuit", "addLot", "(IIII)I"⟩ : MethodName) ∈ gt := gt_of (List.mem_of_getElem? (i := 295) (by decide +kernel)) (by decide +kernel)
theorem mw_296 : Cond.code (⟨"GrindingCircuit", "addLot", "(IIII)I"⟩ : MethodName) prog_1_method_13_code (7 : Nat) (Option.some FieldType.int) ∈ gt := gt_of (List.mem_of_getElem? (i := 296) (by decide +kernel)) (by decide +kernel)
theorem mw_297 : Cond.methodLink "GrindingCircuit" (125 : Nat) (⟨"GrindingCircuit", "areLotMasses", "(IIII)Z"⟩ : MethodName) ∈ gt := gt_of (List.mem_of_getElem? (i := 297) (by decide +kernel)) (by decide +kernel)
theorem mw_298 : Cond.static (⟨"GrindingCircuit", "areLotMasses", "(IIII)Z"⟩ : MethodName) ∈ gt := gt_of (List.mem_of_getElem? (i := 298) (by decide +kernel)) (by decide +kernel)
theorem mw_299 : Cond.code (⟨"GrindingCircuit", "areLotMasses", "(IIII)Z"⟩ : MethodName) prog_1_method_33_code (4 : Nat) (Option.some FieldType.boolean) ∈ gt := gt_of (List.mem_of_getElem? (i := 299) (by decide +kernel)) (by decide +kernel)
theorem mw_300 : Cond.methodLink "GrindingCircuit" (224 : Nat) (⟨"GrindingCircuit", "isLotMass", "(I)Z"⟩ : MethodName) ∈ gt := gt_of (List.mem_of_getElem? (i := 300) (by decide +kernel)) (by decide +kernel)
theorem mw_301 : Cond.static (⟨"GrindingCircuit", "isLotMass", "(I)Z"⟩ : MethodName) ∈ gt := gt_of (List.mem_of_getElem? (i := 301) (by decide +kernel)) (by decide +kernel)
theorem mw_302 : Cond.code (⟨"GrindingCircuit", "isLotMass", "(I)Z"⟩ : MethodName) prog_1_method_32_code (1 : Nat) (Option.some FieldType.boolean) ∈ gt := gt_of (List.mem_of_getElem? (i := 302) (by decide +kernel)) (by decide +kernel)
theorem mw_303 : Cond.methodLink "GrindingCircuit" (133 : Nat) (⟨"GrindingCircuit$Simulation", "create", "(IIII)I"⟩ : MethodName) ∈ gt := gt_of (List.mem_of_getElem? (i := 303) (by decide +kernel)) (by decide +kernel)
theorem mw_304 : Cond.instanceMethod (⟨"GrindingCircuit$Simulation", "create", "(IIII)I"⟩ : MethodName) ∈ gt := gt_of (List.mem_of_getElem? (i := 304) (by decide +kernel)) (by decide +kernel)
theorem mw_305 : Cond.selects "GrindingCircuit$Simulation" (⟨"GrindingCircuit$Simulation", "create", "(IIII)I"⟩ : MethodName) (⟨"GrindingCircuit$Simulation", "create", "(IIII)I"⟩ : MethodName) ∈ gt := gt_of (List.mem_of_getElem? (i := 305) (by decide +kernel)) (by decide +kernel)
theorem mw_306 : Cond.code (⟨"GrindingCircuit$Simulation", "create", "(IIII)I"⟩ : MethodName) prog_5_method_5_code (7 : Nat) (Option.some FieldType.int) ∈ gt := gt_of (List.mem_of_getElem? (i := 306) (by decide +kernel)) (by decide +kernel)
theorem mw_307 : Cond.methodLink "GrindingCircuit" (139 : Nat) (⟨"GrindingCircuit$Simulation", "hasLot", "(I)Z"⟩ : MethodName) ∈ gt := gt_of (List.mem_of_getElem? (i := 307) (by decide +kernel)) (by decide +kernel)
theorem mw_308 : Cond.instanceMethod (⟨"GrindingCircuit$Simulation", "hasLot", "(I)Z"⟩ : MethodName) ∈ gt := gt_of (List.mem_of_getElem? (i := 308) (by decide +kernel)) (by decide +kernel)
theorem mw_309 : Cond.selects "GrindingCircuit$Simulation" (⟨"GrindingCircuit$Simulation", "hasLot", "(I)Z"⟩ : MethodName) (⟨"GrindingCircuit$Simulation", "hasLot", "(I)Z"⟩ : MethodName) ∈ gt := gt_of (List.mem_of_getElem? (i := 309) (by decide +kernel)) (by decide +kernel)
theorem mw_310 : Cond.code (⟨"GrindingCircuit$Simulation", "hasLot", "(I)Z"⟩ : MethodName) prog_5_method_4_code (2 : Nat) (Option.some FieldType.boolean) ∈ gt := gt_of (List.mem_of_getElem? (i := 310) (by decide +kernel)) (by decide +kernel)
theorem mw_311 : Cond.methodLink "GrindingCircuit" (146 : Nat) (⟨"GrindingCircuit$Simulation", "putIntoBin", "(LGrindingCircuit$Lot;)V"⟩ : MethodName) ∈ gt := gt_of (List.mem_of_getElem? (i := 311) (by decide +kernel)) (by decide +kernel)
theorem mw_312 : Cond.instanceMethod (⟨"GrindingCircuit$Simulation", "putIntoBin", "(LGrindingCircuit$Lot;)V"⟩ : MethodName) ∈ gt := gt_of (List.mem_of_getElem? (i := 312) (by decide +kernel)) (by decide +kernel)
theorem mw_313 : Cond.selects "GrindingCircuit$Simulation" (⟨"GrindingCircuit$Simulation", "putIntoBin", "(LGrindingCircuit$Lot;)V"⟩ : MethodName) (⟨"GrindingCircuit$Simulation", "putIntoBin", "(LGrindingCircuit$Lot;)V"⟩ : MethodName) ∈ gt := gt_of (List.mem_of_getElem? (i := 313) (by decide +kernel)) (by decide +kernel)
theorem mw_314 : Cond.code (⟨"GrindingCircuit$Simulation", "putIntoBin", "(LGrindingCircuit$Lot;)V"⟩ : MethodName) prog_5_method_7_code (2 : Nat) (Option.none : Option FieldType) ∈ gt := gt_of (List.mem_of_getElem? (i := 314) (by decide +kernel)) (by decide +kernel)
theorem mw_315 : Cond.methodLink "GrindingCircuit" (150 : Nat) (⟨"GrindingCircuit$Simulation", "startIfIdle", "(LGrindingCircuit$Settings;)V"⟩ : MethodName) ∈ gt := gt_of (List.mem_of_getElem? (i := 315) (by decide +kernel)) (by decide +kernel)
theorem mw_316 : Cond.instanceMethod (⟨"GrindingCircuit$Simulation", "startIfIdle", "(LGrindingCircuit$Settings;)V"⟩ : MethodName) ∈ gt := gt_of (List.mem_of_getElem? (i := 316) (by decide +kernel)) (by decide +kernel)
theorem mw_317 : Cond.selects "GrindingCircuit$Simulation" (⟨"GrindingCircuit$Simulation", "startIfIdle", "(LGrindingCircuit$Settings;)V"⟩ : MethodName) (⟨"GrindingCircuit$Simulation", "startIfIdle", "(LGrindingCircuit$Settings;)V"⟩ : MethodName) ∈ gt := gt_of (List.mem_of_getElem? (i := 317) (by decide +kernel)) (by decide +kernel)
theorem mw_318 : Cond.code (⟨"GrindingCircuit$Simulation", "startIfIdle", "(LGrindingCircuit$Settings;)V"⟩ : MethodName) prog_5_method_12_code (4 : Nat) (Option.none : Option FieldType) ∈ gt := gt_of (List.mem_of_getElem? (i := 318) (by decide +kernel)) (by decide +kernel)
theorem mw_319 : Cond.methodLink "GrindingCircuit$Simulation" (87 : Nat) (⟨"GrindingCircuit$Simulation", "isIdle", "()Z"⟩ : MethodName) ∈ gt := gt_of (List.mem_of_getElem? (i := 319) (by decide +kernel)) (by decide +kernel)
theorem mw_320 : Cond.instanceMethod (⟨"GrindingCircuit$Simulation", "isIdle", "()Z"⟩ : MethodName) ∈ gt := gt_of (List.mem_of_getElem? (i := 320) (by decide +kernel)) (by decide +kernel)
theorem mw_321 : Cond.selects "GrindingCircuit$Simulation" (⟨"GrindingCircuit$Simulation", "isIdle", "()Z"⟩ : MethodName) (⟨"GrindingCircuit$Simulation", "isIdle", "()Z"⟩ : MethodName) ∈ gt := gt_of (List.mem_of_getElem? (i := 321) (by decide +kernel)) (by decide +kernel)
theorem mw_322 : Cond.code (⟨"GrindingCircuit$Simulation", "isIdle", "()Z"⟩ : MethodName) prog_5_method_3_code (1 : Nat) (Option.some FieldType.boolean) ∈ gt := gt_of (List.mem_of_getElem? (i := 322) (by decide +kernel)) (by decide +kernel)
theorem mw_323 : Cond.methodLink "GrindingCircuit$Simulation" (54 : Nat) (⟨"GrindingCircuit$Simulation", "hasLot", "(I)Z"⟩ : MethodName) ∈ gt := gt_of (List.mem_of_getElem? (i := 323) (by decide +kernel)) (by decide +kernel)
theorem mw_324 : Cond.methodLink "GrindingCircuit$Simulation" (131 : Nat) (⟨"GrindingCircuit$Simulation", "firstOfBin", "(I)I"⟩ : MethodName) ∈ gt := gt_of (List.mem_of_getElem? (i := 324) (by decide +kernel)) (by decide +kernel)
theorem mw_326 : Cond.instanceMethod (⟨"GrindingCircuit$Simulation", "firstOfBin", "(I)I"⟩ : MethodName) ∈ gt := gt_of (List.mem_of_getElem? (i := 326) (by decide +kernel)) (by decide +kernel)
theorem mw_327 : Cond.code (⟨"GrindingCircuit$Simulation", "firstOfBin", "(I)I"⟩ : MethodName) prog_5_method_15_code (5 : Nat) (Option.some FieldType.int) ∈ gt := gt_of (List.mem_of_getElem? (i := 327) (by decide +kernel)) (by decide +kernel)
theorem mw_328 : Cond.methodLink "GrindingCircuit$Simulation" (144 : Nat) (⟨"GrindingCircuit$Lot", "standsBefore", "(LGrindingCircuit$Lot;I)Z"⟩ : MethodName) ∈ gt := gt_of (List.mem_of_getElem? (i := 328) (by decide +kernel)) (by decide +kernel)
theorem mw_329 : Cond.instanceMethod (⟨"GrindingCircuit$Lot", "standsBefore", "(LGrindingCircuit$Lot;I)Z"⟩ : MethodName) ∈ gt := gt_of (List.mem_of_getElem? (i := 329) (by decide +kernel)) (by decide +kernel)
theorem mw_330 : Cond.selects "GrindingCircuit$Lot" (⟨"GrindingCircuit$Lot", "standsBefore", "(LGrindingCircuit$Lot;I)Z"⟩ : MethodName) (⟨"GrindingCircuit$Lot", "standsBefore", "(LGrindingCircuit$Lot;I)Z"⟩ : MethodName) ∈ gt := gt_of (List.mem_of_getElem? (i := 330) (by decide +kernel)) (by decide +kernel)
theorem mw_331 : Cond.code (⟨"GrindingCircuit$Lot", "standsBefore", "(LGrindingCircuit$Lot;I)Z"⟩ : MethodName) prog_2_method_3_code (4 : Nat) (Option.some FieldType.boolean) ∈ gt := gt_of (List.mem_of_getElem? (i := 331) (by decide +kernel)) (by decide +kernel)
theorem mw_333 : Cond.methodLink "GrindingCircuit$Lot" (38 : Nat) (⟨"GrindingCircuit$Lot", "coarserBy", "(LGrindingCircuit$Lot;)I"⟩ : MethodName) ∈ gt := gt_of (List.mem_of_getElem? (i := 333) (by decide +kernel)) (by decide +kernel)
theorem mw_335 : Cond.instanceMethod (⟨"GrindingCircuit$Lot", "coarserBy", "(LGrindingCircuit$Lot;)I"⟩ : MethodName) ∈ gt := gt_of (List.mem_of_getElem? (i := 335) (by decide +kernel)) (by decide +kernel)
theorem mw_336 : Cond.code (⟨"GrindingCircuit$Lot", "coarserBy", "(LGrindingCircuit$Lot;)I"⟩ : MethodName) prog_2_method_4_code (3 : Nat) (Option.some FieldType.int) ∈ gt := gt_of (List.mem_of_getElem? (i := 336) (by decide +kernel)) (by decide +kernel)
theorem mw_338 : Cond.methodLink "GrindingCircuit$Simulation" (138 : Nat) (⟨"GrindingCircuit$Simulation", "minutesToGrind", "(II)I"⟩ : MethodName) ∈ gt := gt_of (List.mem_of_getElem? (i := 338) (by decide +kernel)) (by decide +kernel)
theorem mw_339 : Cond.static (⟨"GrindingCircuit$Simulation", "minutesToGrind", "(II)I"⟩ : MethodName) ∈ gt := gt_of (List.mem_of_getElem? (i := 339) (by decide +kernel)) (by decide +kernel)
theorem mw_340 : Cond.code (⟨"GrindingCircuit$Simulation", "minutesToGrind", "(II)I"⟩ : MethodName) prog_5_method_13_code (3 : Nat) (Option.some FieldType.int) ∈ gt := gt_of (List.mem_of_getElem? (i := 340) (by decide +kernel)) (by decide +kernel)
theorem mw_341 : Cond.methodLink "GrindingCircuit$Simulation" (141 : Nat) (⟨"java/lang/Math", "max", "(II)I"⟩ : MethodName) ∈ gt := gt_of (List.mem_of_getElem? (i := 341) (by decide +kernel)) (by decide +kernel)
theorem mw_342 : Cond.static (⟨"java/lang/Math", "max", "(II)I"⟩ : MethodName) ∈ gt := gt_of (List.mem_of_getElem? (i := 342) (by decide +kernel)) (by decide +kernel)
theorem mw_343 : Cond.code (⟨"java/lang/Math", "max", "(II)I"⟩ : MethodName) prog_9_method_65_code (2 : Nat) (Option.some FieldType.int) ∈ gt := gt_of (List.mem_of_getElem? (i := 343) (by decide +kernel)) (by decide +kernel)
theorem mw_344 : Cond.methodLink "GrindingCircuitLaw" (66 : Nat) (⟨"GrindingCircuit", "planLot", "(IIIII)I"⟩ : MethodName) ∈ gt := gt_of (List.mem_of_getElem? (i := 344) (by decide +kernel)) (by decide +kernel)
theorem mw_345 : Cond.instanceMethod (⟨"GrindingCircuit", "planLot", "(IIIII)I"⟩ : MethodName) ∈ gt := gt_of (List.mem_of_getElem? (i := 345) (by decide +kernel)) (by decide +kernel)
theorem mw_346 : Cond.selects "GrindingCircuit" (⟨"GrindingCircuit", "planLot", "(IIIII)I"⟩ : MethodName) (⟨"GrindingCircuit", "planLot", "(IIIII)I"⟩ : MethodName) ∈ gt := gt_of (List.mem_of_getElem? (i := 346) (by decide +kernel)) (by decide +kernel)
theorem mw_347 : Cond.code (⟨"GrindingCircuit", "planLot", "(IIIII)I"⟩ : MethodName) prog_1_method_14_code (8 : Nat) (Option.some FieldType.int) ∈ gt := gt_of (List.mem_of_getElem? (i := 347) (by decide +kernel)) (by decide +kernel)
theorem mw_348 : Cond.methodLink "GrindingCircuit" (154 : Nat) (⟨"GrindingCircuit$Simulation", "plan", "(LGrindingCircuit$Lot;I)V"⟩ : MethodName) ∈ gt := gt_of (List.mem_of_getElem? (i := 348) (by decide +kernel)) (by decide +kernel)
theorem mw_349 : Cond.instanceMethod (⟨"GrindingCircuit$Simulation", "plan", "(LGrindingCircuit$Lot;I)V"⟩ : MethodName) ∈ gt := gt_of (List.mem_of_getElem? (i := 349) (by decide +kernel)) (by decide +kernel)
theorem mw_350 : Cond.selects "GrindingCircuit$Simulation" (⟨"GrindingCircuit$Simulation", "plan", "(LGrindingCircuit$Lot;I)V"⟩ : MethodName) (⟨"GrindingCircuit$Simulation", "plan", "(LGrindingCircuit$Lot;I)V"⟩ : MethodName) ∈ gt := gt_of (List.mem_of_getElem? (i := 350) (by decide +kernel)) (by decide +kernel)
theorem mw_351 : Cond.code (⟨"GrindingCircuit$Simulation", "plan", "(LGrindingCircuit$Lot;I)V"⟩ : MethodName) prog_5_method_6_code (3 : Nat) (Option.none : Option FieldType) ∈ gt := gt_of (List.mem_of_getElem? (i := 351) (by decide +kernel)) (by decide +kernel)
theorem mw_352 : Cond.methodLink "GrindingCircuitLaw" (71 : Nat) (⟨"GrindingCircuit", "advance", "(I)I"⟩ : MethodName) ∈ gt := gt_of (List.mem_of_getElem? (i := 352) (by decide +kernel)) (by decide +kernel)
theorem mw_353 : Cond.instanceMethod (⟨"GrindingCircuit", "advance", "(I)I"⟩ : MethodName) ∈ gt := gt_of (List.mem_of_getElem? (i := 353) (by decide +kernel)) (by decide +kernel)
theorem mw_354 : Cond.selects "GrindingCircuit" (⟨"GrindingCircuit", "advance", "(I)I"⟩ : MethodName) (⟨"GrindingCircuit", "advance", "(I)I"⟩ : MethodName) ∈ gt := gt_of (List.mem_of_getElem? (i := 354) (by decide +kernel)) (by decide +kernel)
theorem mw_355 : Cond.code (⟨"GrindingCircuit", "advance", "(I)I"⟩ : MethodName) prog_1_method_15_code (2 : Nat) (Option.some FieldType.int) ∈ gt := gt_of (List.mem_of_getElem? (i := 355) (by decide +kernel)) (by decide +kernel)
theorem mw_356 : Cond.methodLink "GrindingCircuit" (158 : Nat) (⟨"GrindingCircuit$Simulation", "run", "(ILGrindingCircuit$Settings;)V"⟩ : MethodName) ∈ gt := gt_of (List.mem_of_getElem? (i := 356) (by decide +kernel)) (by decide +kernel)
theorem mw_357 : Cond.instanceMethod (⟨"GrindingCircuit$Simulation", "run", "(ILGrindingCircuit$Settings;)V"⟩ : MethodName) ∈ gt := gt_of (List.mem_of_getElem? (i := 357) (by decide +kernel)) (by decide +kernel)
theorem mw_358 : Cond.selects "GrindingCircuit$Simulation" (⟨"GrindingCircuit$Simulation", "run", "(ILGrindingCircuit$Settings;)V"⟩ : MethodName) (⟨"GrindingCircuit$Simulation", "run", "(ILGrindingCircuit$Settings;)V"⟩ : MethodName) ∈ gt := gt_of (List.mem_of_getElem? (i := 358) (by decide +kernel)) (by decide +kernel)
theorem mw_359 : Cond.code (⟨"GrindingCircuit$Simulation", "run", "(ILGrindingCircuit$Settings;)V"⟩ : MethodName) prog_5_method_8_code (6 : Nat) (Option.none : Option FieldType) ∈ gt := gt_of (List.mem_of_getElem? (i := 359) (by decide +kernel)) (by decide +kernel)
theorem mw_360 : Cond.methodLink "GrindingCircuit$Simulation" (73 : Nat) (⟨"GrindingCircuit$Simulation", "nextEvent", "()I"⟩ : MethodName) ∈ gt := gt_of (List.mem_of_getElem? (i := 360) (by decide +kernel)) (by decide +kernel)
theorem mw_362 : Cond.instanceMethod (⟨"GrindingCircuit$Simulation", "nextEvent", "()I"⟩ : MethodName) ∈ gt := gt_of (List.mem_of_getElem? (i := 362) (by decide +kernel)) (by decide +kernel)
theorem mw_363 : Cond.code (⟨"GrindingCircuit$Simulation", "nextEvent", "()I"⟩ : MethodName) prog_5_method_9_code (4 : Nat) (Option.some FieldType.int) ∈ gt := gt_of (List.mem_of_getElem? (i := 363) (by decide +kernel)) (by decide +kernel)
theorem mw_364 : Cond.constant "GrindingCircuit$Simulation" (91 : Nat) (2147483647 : Int32) ∈ gt := gt_of (List.mem_of_getElem? (i := 364) (by decide +kernel)) (by decide +kernel)
theorem mw_365 : Cond.methodLink "GrindingCircuit$Simulation" (92 : Nat) (⟨"java/lang/Math", "min", "(II)I"⟩ : MethodName) ∈ gt := gt_of (List.mem_of_getElem? (i := 365) (by decide +kernel)) (by decide +kernel)
theorem mw_366 : Cond.static (⟨"java/lang/Math", "min", "(II)I"⟩ : MethodName) ∈ gt := gt_of (List.mem_of_getElem? (i := 366) (by decide +kernel)) (by decide +kernel)
theorem mw_367 : Cond.code (⟨"java/lang/Math", "min", "(II)I"⟩ : MethodName) prog_9_method_69_code (2 : Nat) (Option.some FieldType.int) ∈ gt := gt_of (List.mem_of_getElem? (i := 367) (by decide +kernel)) (by decide +kernel)
theorem mw_368 : Cond.methodLink "GrindingCircuit$Simulation" (77 : Nat) (⟨"GrindingCircuit$Simulation", "finishIfDue", "(LGrindingCircuit$Settings;)V"⟩ : MethodName) ∈ gt := gt_of (List.mem_of_getElem? (i := 368) (by decide +kernel)) (by decide +kernel)
theorem mw_370 : Cond.instanceMethod (⟨"GrindingCircuit$Simulation", "finishIfDue", "(LGrindingCircuit$Settings;)V"⟩ : MethodName) ∈ gt := gt_of (List.mem_of_getElem? (i := 370) (by decide +kernel)) (by decide +kernel)
theorem mw_371 : Cond.code (⟨"GrindingCircuit$Simulation", "finishIfDue", "(LGrindingCircuit$Settings;)V"⟩ : MethodName) prog_5_method_10_code (4 : Nat) (Option.none : Option FieldType) ∈ gt := gt_of (List.mem_of_getElem? (i := 371) (by decide +kernel)) (by decide +kernel)
theorem mw_372 : Cond.methodLink "GrindingCircuit$Simulation" (103 : Nat) (⟨"GrindingCircuit$Lot", "energyToGrind", "([I)I"⟩ : MethodName) ∈ gt := gt_of (List.mem_of_getElem? (i := 372) (by decide +kernel)) (by decide +kernel)
theorem mw_373 : Cond.instanceMethod (⟨"GrindingCircuit$Lot", "energyToGrind", "([I)I"⟩ : MethodName) ∈ gt := gt_of (List.mem_of_getElem? (i := 373) (by decide +kernel)) (by decide +kernel)
theorem mw_374 : Cond.selects "GrindingCircuit$Lot" (⟨"GrindingCircuit$Lot", "energyToGrind", "([I)I"⟩ : MethodName) (⟨"GrindingCircuit$Lot", "energyToGrind", "([I)I"⟩ : MethodName) ∈ gt := gt_of (List.mem_of_getElem? (i := 374) (by decide +kernel)) (by decide +kernel)
theorem mw_375 : Cond.code (⟨"GrindingCircuit$Lot", "energyToGrind", "([I)I"⟩ : MethodName) prog_2_method_5_code (4 : Nat) (Option.some FieldType.int) ∈ gt := gt_of (List.mem_of_getElem? (i := 375) (by decide +kernel)) (by decide +kernel)
theorem mw_376 : Cond.methodLink "GrindingCircuit$Simulation" (111 : Nat) (⟨"GrindingCircuit$Lot", "breakOre", "([[I)V"⟩ : MethodName) ∈ gt := gt_of (List.mem_of_getElem? (i := 376) (by decide +kernel)) (by decide +kernel)
theorem mw_377 : Cond.instanceMethod (⟨"GrindingCircuit$Lot", "breakOre", "([[I)V"⟩ : MethodName) ∈ gt := gt_of (List.mem_of_getElem? (i := 377) (by decide +kernel)) (by decide +kernel)
theorem mw_378 : Cond.selects "GrindingCircuit$Lot" (⟨"GrindingCircuit$Lot", "breakOre", "([[I)V"⟩ : MethodName) (⟨"GrindingCircuit$Lot", "breakOre", "([[I)V"⟩ : MethodName) ∈ gt := gt_of (List.mem_of_getElem? (i := 378) (by decide +kernel)) (by decide +kernel)
theorem mw_379 : Cond.code (⟨"GrindingCircuit$Lot", "breakOre", "([[I)V"⟩ : MethodName) prog_2_method_6_code (6 : Nat) (Option.none : Option FieldType) ∈ gt := gt_of (List.mem_of_getElem? (i := 379) (by decide +kernel)) (by decide +kernel)
theorem mw_380 : Cond.methodLink "GrindingCircuit$Simulation" (118 : Nat) (⟨"GrindingCircuit$Lot", "classify", "([I[I)V"⟩ : MethodName) ∈ gt := gt_of (List.mem_of_getElem? (i := 380) (by decide +kernel)) (by decide +kernel)
theorem mw_381 : Cond.instanceMethod (⟨"GrindingCircuit$Lot", "classify", "([I[I)V"⟩ : MethodName) ∈ gt := gt_of (List.mem_of_getElem? (i := 381) (by decide +kernel)) (by decide +kernel)
theorem mw_382 : Cond.selects "GrindingCircuit$Lot" (⟨"GrindingCircuit$Lot", "classify", "([I[I)V"⟩ : MethodName) (⟨"GrindingCircuit$Lot", "classify", "([I[I)V"⟩ : MethodName) ∈ gt := gt_of (List.mem_of_getElem? (i := 382) (by decide +kernel)) (by decide +kernel)
theorem mw_383 : Cond.code (⟨"GrindingCircuit$Lot", "classify", "([I[I)V"⟩ : MethodName) prog_2_method_7_code (5 : Nat) (Option.none : Option FieldType) ∈ gt := gt_of (List.mem_of_getElem? (i := 383) (by decide +kernel)) (by decide +kernel)
theorem mw_384 : Cond.methodLink "GrindingCircuit$Simulation" (125 : Nat) (⟨"GrindingCircuit$Simulation", "putIntoBin", "(LGrindingCircuit$Lot;)V"⟩ : MethodName) ∈ gt := gt_of (List.mem_of_getElem? (i := 384) (by decide +kernel)) (by decide +kernel)
theorem mw_385 : Cond.methodLink "GrindingCircuit$Simulation" (81 : Nat) (⟨"GrindingCircuit$Simulation", "takePlannedLots", "()V"⟩ : MethodName) ∈ gt := gt_of (List.mem_of_getElem? (i := 385) (by decide +kernel)) (by decide +kernel)
theorem mw_387 : Cond.instanceMethod (⟨"GrindingCircuit$Simulation", "takePlannedLots", "()V"⟩ : MethodName) ∈ gt := gt_of (List.mem_of_getElem? (i := 387) (by decide +kernel)) (by decide +kernel)
theorem mw_388 : Cond.code (⟨"GrindingCircuit$Simulation", "takePlannedLots", "()V"⟩ : MethodName) prog_5_method_11_code (3 : Nat) (Option.none : Option FieldType) ∈ gt := gt_of (List.mem_of_getElem? (i := 388) (by decide +kernel)) (by decide +kernel)
theorem mw_389 : Cond.methodLink "GrindingCircuit$Simulation" (84 : Nat) (⟨"GrindingCircuit$Simulation", "startIfIdle", "(LGrindingCircuit$Settings;)V"⟩ : MethodName) ∈ gt := gt_of (List.mem_of_getElem? (i := 389) (by decide +kernel)) (by decide +kernel)
theorem mw_390 : Cond.methodLink "GrindingCircuitLaw" (75 : Nat) (⟨"GrindingCircuit", "setRate", "(I)I"⟩ : MethodName) ∈ gt := gt_of (List.mem_of_getElem? (i := 390) (by decide +kernel)) (by decide +kernel)
theorem mw_391 : Cond.instanceMethod (⟨"GrindingCircuit", "setRate", "(I)I"⟩ : MethodName) ∈ gt := gt_of (List.mem_of_getElem? (i := 391) (by decide +kernel)) (by decide +kernel)
theorem mw_392 : Cond.selects "GrindingCircuit" (⟨"GrindingCircuit", "setRate", "(I)I"⟩ : MethodName) (⟨"GrindingCircuit", "setRate", "(I)I"⟩ : MethodName) ∈ gt := gt_of (List.mem_of_getElem? (i := 392) (by decide +kernel)) (by decide +kernel)
theorem mw_393 : Cond.code (⟨"GrindingCircuit", "setRate", "(I)I"⟩ : MethodName) prog_1_method_16_code (3 : Nat) (Option.some FieldType.int) ∈ gt := gt_of (List.mem_of_getElem? (i := 393) (by decide +kernel)) (by decide +kernel)
theorem mw_394 : Cond.methodLink "GrindingCircuitLaw" (79 : Nat) (⟨"GrindingCircuit", "setRule", "(I)I"⟩ : MethodName) ∈ gt := gt_of (List.mem_of_getElem? (i := 394) (by decide +kernel)) (by decide +kernel)
theorem mw_395 : Cond.instanceMethod (⟨"GrindingCircuit", "setRule", "(I)I"⟩ : MethodName) ∈ gt := gt_of (List.mem_of_getElem? (i := 395) (by decide +kernel)) (by decide +kernel)
theorem mw_396 : Cond.selects "GrindingCircuit" (⟨"GrindingCircuit", "setRule", "(I)I"⟩ : MethodName) (⟨"GrindingCircuit", "setRule", "(I)I"⟩ : MethodName) ∈ gt := gt_of (List.mem_of_getElem? (i := 396) (by decide +kernel)) (by decide +kernel)
theorem mw_397 : Cond.code (⟨"GrindingCircuit", "setRule", "(I)I"⟩ : MethodName) prog_1_method_17_code (3 : Nat) (Option.some FieldType.int) ∈ gt := gt_of (List.mem_of_getElem? (i := 397) (by decide +kernel)) (by decide +kernel)
theorem mw_398 : Cond.methodLink "GrindingCircuitLaw" (83 : Nat) (⟨"GrindingCircuit", "bin", "(I)I"⟩ : MethodName) ∈ gt := gt_of (List.mem_of_getElem? (i := 398) (by decide +kernel)) (by decide +kernel)
theorem mw_399 : Cond.instanceMethod (⟨"GrindingCircuit", "bin", "(I)I"⟩ : MethodName) ∈ gt := gt_of (List.mem_of_getElem? (i := 399) (by decide +kernel)) (by decide +kernel)
theorem mw_400 : Cond.selects "GrindingCircuit" (⟨"GrindingCircuit", "bin", "(I)I"⟩ : MethodName) (⟨"GrindingCircuit", "bin", "(I)I"⟩ : MethodName) ∈ gt := gt_of (List.mem_of_getElem? (i := 400) (by decide +kernel)) (by decide +kernel)
theorem mw_401 : Cond.code (⟨"GrindingCircuit", "bin", "(I)I"⟩ : MethodName) prog_1_method_18_code (3 : Nat) (Option.some FieldType.int) ∈ gt := gt_of (List.mem_of_getElem? (i := 401) (by decide +kernel)) (by decide +kernel)
theorem mw_402 : Cond.methodLink "GrindingCircuit" (172 : Nat) (⟨"GrindingCircuit$Simulation", "countBin", "()I"⟩ : MethodName) ∈ gt := gt_of (List.mem_of_getElem? (i := 402) (by decide +kernel)) (by decide +kernel)
theorem mw_403 : Cond.instanceMethod (⟨"GrindingCircuit$Simulation", "countBin", "()I"⟩ : MethodName) ∈ gt := gt_of (List.mem_of_getElem? (i := 403) (by decide +kernel)) (by decide +kernel)
theorem mw_404 : Cond.selects "GrindingCircuit$Simulation" (⟨"GrindingCircuit$Simulation", "countBin", "()I"⟩ : MethodName) (⟨"GrindingCircuit$Simulation", "countBin", "()I"⟩ : MethodName) ∈ gt := gt_of (List.mem_of_getElem? (i := 404) (by decide +kernel)) (by decide +kernel)
theorem mw_405 : Cond.code (⟨"GrindingCircuit$Simulation", "countBin", "()I"⟩ : MethodName) prog_5_method_14_code (3 : Nat) (Option.some FieldType.int) ∈ gt := gt_of (List.mem_of_getElem? (i := 405) (by decide +kernel)) (by decide +kernel)
theorem mw_406 : Cond.methodLink "GrindingCircuit" (176 : Nat) (⟨"GrindingCircuit$Simulation", "lotAt", "(II)I"⟩ : MethodName) ∈ gt := gt_of (List.mem_of_getElem? (i := 406) (by decide +kernel)) (by decide +kernel)
theorem mw_407 : Cond.instanceMethod (⟨"GrindingCircuit$Simulation", "lotAt", "(II)I"⟩ : MethodName) ∈ gt := gt_of (List.mem_of_getElem? (i := 407) (by decide +kernel)) (by decide +kernel)
theorem mw_408 : Cond.selects "GrindingCircuit$Simulation" (⟨"GrindingCircuit$Simulation", "lotAt", "(II)I"⟩ : MethodName) (⟨"GrindingCircuit$Simulation", "lotAt", "(II)I"⟩ : MethodName) ∈ gt := gt_of (List.mem_of_getElem? (i := 408) (by decide +kernel)) (by decide +kernel)
theorem mw_409 : Cond.code (⟨"GrindingCircuit$Simulation", "lotAt", "(II)I"⟩ : MethodName) prog_5_method_16_code (5 : Nat) (Option.some FieldType.int) ∈ gt := gt_of (List.mem_of_getElem? (i := 409) (by decide +kernel)) (by decide +kernel)
theorem mw_410 : Cond.methodLink "GrindingCircuit$Simulation" (148 : Nat) (⟨"GrindingCircuit$Simulation", "countBefore", "(LGrindingCircuit$Lot;I)I"⟩ : MethodName) ∈ gt := gt_of (List.mem_of_getElem? (i := 410) (by decide +kernel)) (by decide +kernel)
theorem mw_412 : Cond.instanceMethod (⟨"GrindingCircuit$Simulation", "countBefore", "(LGrindingCircuit$Lot;I)I"⟩ : MethodName) ∈ gt := gt_of (List.mem_of_getElem? (i := 412) (by decide +kernel)) (by decide +kernel)
theorem mw_413 : Cond.code (⟨"GrindingCircuit$Simulation", "countBefore", "(LGrindingCircuit$Lot;I)I"⟩ : MethodName) prog_5_method_17_code (6 : Nat) (Option.some FieldType.int) ∈ gt := gt_of (List.mem_of_getElem? (i := 413) (by decide +kernel)) (by decide +kernel)
theorem mw_414 : Cond.methodLink "GrindingCircuitLaw" (87 : Nat) (⟨"GrindingCircuit", "mill", "(I)I"⟩ : MethodName) ∈ gt := gt_of (List.mem_of_getElem? (i := 414) (by decide +kernel)) (by decide +kernel)
theorem mw_415 : Cond.instanceMethod (⟨"GrindingCircuit", "mill", "(I)I"⟩ : MethodName) ∈ gt := gt_of (List.mem_of_getElem? (i := 415) (by decide +kernel)) (by decide +kernel)
theorem mw_416 : Cond.selects "GrindingCircuit" (⟨"GrindingCircuit", "mill", "(I)I"⟩ : MethodName) (⟨"GrindingCircuit", "mill", "(I)I"⟩ : MethodName) ∈ gt := gt_of (List.mem_of_getElem? (i := 416) (by decide +kernel)) (by decide +kernel)
theorem mw_417 : Cond.code (⟨"GrindingCircuit", "mill", "(I)I"⟩ : MethodName) prog_1_method_19_code (3 : Nat) (Option.some FieldType.int) ∈ gt := gt_of (List.mem_of_getElem? (i := 417) (by decide +kernel)) (by decide +kernel)
theorem mw_418 : Cond.methodLink "GrindingCircuit" (180 : Nat) (⟨"GrindingCircuit$Simulation", "isIdle", "()Z"⟩ : MethodName) ∈ gt := gt_of (List.mem_of_getElem? (i := 418) (by decide +kernel)) (by decide +kernel)
theorem mw_419 : Cond.methodLink "GrindingCircuitLaw" (91 : Nat) (⟨"GrindingCircuit", "state", "(I)I"⟩ : MethodName) ∈ gt := gt_of (List.mem_of_getElem? (i := 419) (by decide +kernel)) (by decide +kernel)
theorem mw_420 : Cond.instanceMethod (⟨"GrindingCircuit", "state", "(I)I"⟩ : MethodName) ∈ gt := gt_of (List.mem_of_getElem? (i := 420) (by decide +kernel)) (by decide +kernel)
theorem mw_421 : Cond.selects "GrindingCircuit" (⟨"GrindingCircuit", "state", "(I)I"⟩ : MethodName) (⟨"GrindingCircuit", "state", "(I)I"⟩ : MethodName) ∈ gt := gt_of (List.mem_of_getElem? (i := 421) (by decide +kernel)) (by decide +kernel)
theorem mw_422 : Cond.code (⟨"GrindingCircuit", "state", "(I)I"⟩ : MethodName) prog_1_method_20_code (2 : Nat) (Option.some FieldType.int) ∈ gt := gt_of (List.mem_of_getElem? (i := 422) (by decide +kernel)) (by decide +kernel)
theorem mw_423 : Cond.methodLink "GrindingCircuitLaw" (95 : Nat) (⟨"GrindingCircuit", "mass", "(II)I"⟩ : MethodName) ∈ gt := gt_of (List.mem_of_getElem? (i := 423) (by decide +kernel)) (by decide +kernel)
theorem mw_424 : Cond.instanceMethod (⟨"GrindingCircuit", "mass", "(II)I"⟩ : MethodName) ∈ gt := gt_of (List.mem_of_getElem? (i := 424) (by decide +kernel)) (by decide +kernel)
theorem mw_425 : Cond.selects "GrindingCircuit" (⟨"GrindingCircuit", "mass", "(II)I"⟩ : MethodName) (⟨"GrindingCircuit", "mass", "(II)I"⟩ : MethodName) ∈ gt := gt_of (List.mem_of_getElem? (i := 425) (by decide +kernel)) (by decide +kernel)
theorem mw_426 : Cond.code (⟨"GrindingCircuit", "mass", "(II)I"⟩ : MethodName) prog_1_method_21_code (3 : Nat) (Option.some FieldType.int) ∈ gt := gt_of (List.mem_of_getElem? (i := 426) (by decide +kernel)) (by decide +kernel)
theorem mw_427 : Cond.methodLink "GrindingCircuit" (198 : Nat) (⟨"GrindingCircuit", "sizeOrAll", "([II)I"⟩ : MethodName) ∈ gt := gt_of (List.mem_of_getElem? (i := 427) (by decide +kernel)) (by decide +kernel)
theorem mw_428 : Cond.static (⟨"GrindingCircuit", "sizeOrAll", "([II)I"⟩ : MethodName) ∈ gt := gt_of (List.mem_of_getElem? (i := 428) (by decide +kernel)) (by decide +kernel)
theorem mw_429 : Cond.code (⟨"GrindingCircuit", "sizeOrAll", "([II)I"⟩ : MethodName) prog_1_method_35_code (2 : Nat) (Option.some FieldType.int) ∈ gt := gt_of (List.mem_of_getElem? (i := 429) (by decide +kernel)) (by decide +kernel)
theorem mw_430 : Cond.methodLink "GrindingCircuitLaw" (99 : Nat) (⟨"GrindingCircuit", "passes", "(I)I"⟩ : MethodName) ∈ gt := gt_of (List.mem_of_getElem? (i := 430) (by decide +kernel)) (by decide +kernel)
theorem mw_431 : Cond.instanceMethod (⟨"GrindingCircuit", "passes", "(I)I"⟩ : MethodName) ∈ gt := gt_of (List.mem_of_getElem? (i := 431) (by decide +kernel)) (by decide +kernel)
theorem mw_432 : Cond.selects "GrindingCircuit" (⟨"GrindingCircuit", "passes", "(I)I"⟩ : MethodName) (⟨"GrindingCircuit", "passes", "(I)I"⟩ : MethodName) ∈ gt := gt_of (List.mem_of_getElem? (i := 432) (by decide +kernel)) (by decide +kernel)
theorem mw_433 : Cond.code (⟨"GrindingCircuit", "passes", "(I)I"⟩ : MethodName) prog_1_method_22_code (2 : Nat) (Option.some FieldType.int) ∈ gt := gt_of (List.mem_of_getElem? (i := 433) (by decide +kernel)) (by decide +kernel)
theorem mw_434 : Cond.methodLink "GrindingCircuitLaw" (103 : Nat) (⟨"GrindingCircuit", "produced", "(I)I"⟩ : MethodName) ∈ gt := gt_of (List.mem_of_getElem? (i := 434) (by decide +kernel)) (by decide +kernel)
theorem mw_435 : Cond.instanceMethod (⟨"GrindingCircuit", "produced", "(I)I"⟩ : MethodName) ∈ gt := gt_of (List.mem_of_getElem? (i := 435) (by decide +kernel)) (by decide +kernel)
theorem mw_436 : Cond.selects "GrindingCircuit" (⟨"GrindingCircuit", "produced", "(I)I"⟩ : MethodName) (⟨"GrindingCircuit", "produced", "(I)I"⟩ : MethodName) ∈ gt := gt_of (List.mem_of_getElem? (i := 436) (by decide +kernel)) (by decide +kernel)
theorem mw_437 : Cond.code (⟨"GrindingCircuit", "produced", "(I)I"⟩ : MethodName) prog_1_method_23_code (2 : Nat) (Option.some FieldType.int) ∈ gt := gt_of (List.mem_of_getElem? (i := 437) (by decide +kernel)) (by decide +kernel)
theorem mw_438 : Cond.methodLink "GrindingCircuitLaw" (107 : Nat) (⟨"GrindingCircuit", "total", "(I)I"⟩ : MethodName) ∈ gt := gt_of (List.mem_of_getElem? (i := 438) (by decide +kernel)) (by decide +kernel)
theorem mw_439 : Cond.instanceMethod (⟨"GrindingCircuit", "total", "(I)I"⟩ : MethodName) ∈ gt := gt_of (List.mem_of_getElem? (i := 439) (by decide +kernel)) (by decide +kernel)
theorem mw_440 : Cond.selects "GrindingCircuit" (⟨"GrindingCircuit", "total", "(I)I"⟩ : MethodName) (⟨"GrindingCircuit", "total", "(I)I"⟩ : MethodName) ∈ gt := gt_of (List.mem_of_getElem? (i := 440) (by decide +kernel)) (by decide +kernel)
theorem mw_441 : Cond.code (⟨"GrindingCircuit", "total", "(I)I"⟩ : MethodName) prog_1_method_24_code (3 : Nat) (Option.some FieldType.int) ∈ gt := gt_of (List.mem_of_getElem? (i := 441) (by decide +kernel)) (by decide +kernel)
theorem mw_442 : Cond.methodLink "GrindingCircuitLaw" (111 : Nat) (⟨"GrindingCircuit", "save", "(I)I"⟩ : MethodName) ∈ gt := gt_of (List.mem_of_getElem? (i := 442) (by decide +kernel)) (by decide +kernel)
theorem mw_443 : Cond.instanceMethod (⟨"GrindingCircuit", "save", "(I)I"⟩ : MethodName) ∈ gt := gt_of (List.mem_of_getElem? (i := 443) (by decide +kernel)) (by decide +kernel)
theorem mw_444 : Cond.selects "GrindingCircuit" (⟨"GrindingCircuit", "save", "(I)I"⟩ : MethodName) (⟨"GrindingCircuit", "save", "(I)I"⟩ : MethodName) ∈ gt := gt_of (List.mem_of_getElem? (i := 444) (by decide +kernel)) (by decide +kernel)
theorem mw_445 : Cond.code (⟨"GrindingCircuit", "save", "(I)I"⟩ : MethodName) prog_1_method_25_code (2 : Nat) (Option.some FieldType.int) ∈ gt := gt_of (List.mem_of_getElem? (i := 445) (by decide +kernel)) (by decide +kernel)
theorem mw_446 : Cond.methodLink "GrindingCircuit" (217 : Nat) (⟨"GrindingCircuit", "isSlot", "(I)Z"⟩ : MethodName) ∈ gt := gt_of (List.mem_of_getElem? (i := 446) (by decide +kernel)) (by decide +kernel)
theorem mw_447 : Cond.static (⟨"GrindingCircuit", "isSlot", "(I)Z"⟩ : MethodName) ∈ gt := gt_of (List.mem_of_getElem? (i := 447) (by decide +kernel)) (by decide +kernel)
theorem mw_448 : Cond.code (⟨"GrindingCircuit", "isSlot", "(I)Z"⟩ : MethodName) prog_1_method_30_code (1 : Nat) (Option.some FieldType.boolean) ∈ gt := gt_of (List.mem_of_getElem? (i := 448) (by decide +kernel)) (by decide +kernel)
theorem mw_449 : Cond.methodLink "GrindingCircuit" (220 : Nat) (⟨"GrindingCircuit$Plant", "copyFrom", "(LGrindingCircuit$Plant;)V"⟩ : MethodName) ∈ gt := gt_of (List.mem_of_getElem? (i := 449) (by decide +kernel)) (by decide +kernel)
theorem mw_450 : Cond.instanceMethod (⟨"GrindingCircuit$Plant", "copyFrom", "(LGrindingCircuit$Plant;)V"⟩ : MethodName) ∈ gt := gt_of (List.mem_of_getElem? (i := 450) (by decide +kernel)) (by decide +kernel)
theorem mw_451 : Cond.selects "GrindingCircuit$Plant" (⟨"GrindingCircuit$Plant", "copyFrom", "(LGrindingCircuit$Plant;)V"⟩ : MethodName) (⟨"GrindingCircuit$Plant", "copyFrom", "(LGrindingCircuit$Plant;)V"⟩ : MethodName) ∈ gt := gt_of (List.mem_of_getElem? (i := 451) (by decide +kernel)) (by decide +kernel)
theorem mw_452 : Cond.code (⟨"GrindingCircuit$Plant", "copyFrom", "(LGrindingCircuit$Plant;)V"⟩ : MethodName) prog_3_method_2_code (2 : Nat) (Option.none : Option FieldType) ∈ gt := gt_of (List.mem_of_getElem? (i := 452) (by decide +kernel)) (by decide +kernel)
theorem mw_453 : Cond.methodLink "GrindingCircuit$Plant" (23 : Nat) (⟨"GrindingCircuit$Settings", "copyFrom", "(LGrindingCircuit$Settings;)V"⟩ : MethodName) ∈ gt := gt_of (List.mem_of_getElem? (i := 453) (by decide +kernel)) (by decide +kernel)
theorem mw_454 : Cond.instanceMethod (⟨"GrindingCircuit$Settings", "copyFrom", "(LGrindingCircuit$Settings;)V"⟩ : MethodName) ∈ gt := gt_of (List.mem_of_getElem? (i := 454) (by decide +kernel)) (by decide +kernel)
theorem mw_455 : Cond.selects "GrindingCircuit$Settings" (⟨"GrindingCircuit$Settings", "copyFrom", "(LGrindingCircuit$Settings;)V"⟩ : MethodName) (⟨"GrindingCircuit$Settings", "copyFrom", "(LGrindingCircuit$Settings;)V"⟩ : MethodName) ∈ gt := gt_of (List.mem_of_getElem? (i := 455) (by decide +kernel)) (by decide +kernel)
theorem mw_456 : Cond.code (⟨"GrindingCircuit$Settings", "copyFrom", "(LGrindingCircuit$Settings;)V"⟩ : MethodName) prog_4_method_3_code (3 : Nat) (Option.none : Option FieldType) ∈ gt := gt_of (List.mem_of_getElem? (i := 456) (by decide +kernel)) (by decide +kernel)
theorem mw_457 : Cond.methodLink "GrindingCircuit$Settings" (37 : Nat) (⟨"java/lang/System", "arraycopy", "(Ljava/lang/Object;ILjava/lang/Object;II)V"⟩ : MethodName) ∈ gt := gt_of (List.mem_of_getElem? (i := 457) (by decide +kernel)) (by decide +kernel)
theorem mw_458 : Cond.static (⟨"java/lang/System", "arraycopy", "(Ljava/lang/Object;ILjava/lang/Object;II)V"⟩ : MethodName) ∈ gt := gt_of (List.mem_of_getElem? (i := 458) (by decide +kernel)) (by decide +kernel)
theorem mw_459 : Cond.native (⟨"java/lang/System", "arraycopy", "(Ljava/lang/Object;ILjava/lang/Object;II)V"⟩ : MethodName) ∈ gt := gt_of (List.mem_of_getElem? (i := 459) (by decide +kernel)) (by decide +kernel)
theorem mw_460 : Cond.methodLink "GrindingCircuit$Plant" (27 : Nat) (⟨"GrindingCircuit$Simulation", "copyFrom", "(LGrindingCircuit$Simulation;)V"⟩ : MethodName) ∈ gt := gt_of (List.mem_of_getElem? (i := 460) (by decide +kernel)) (by decide +kernel)
theorem mw_461 : Cond.instanceMethod (⟨"GrindingCircuit$Simulation", "copyFrom", "(LGrindingCircuit$Simulation;)V"⟩ : MethodName) ∈ gt := gt_of (List.mem_of_getElem? (i := 461) (by decide +kernel)) (by decide +kernel)
theorem mw_462 : Cond.selects "GrindingCircuit$Simulation" (⟨"GrindingCircuit$Simulation", "copyFrom", "(LGrindingCircuit$Simulation;)V"⟩ : MethodName) (⟨"GrindingCircuit$Simulation", "copyFrom", "(LGrindingCircuit$Simulation;)V"⟩ : MethodName) ∈ gt := gt_of (List.mem_of_getElem? (i := 462) (by decide +kernel)) (by decide +kernel)
theorem mw_463 : Cond.code (⟨"GrindingCircuit$Simulation", "copyFrom", "(LGrindingCircuit$Simulation;)V"⟩ : MethodName) prog_5_method_2_code (3 : Nat) (Option.none : Option FieldType) ∈ gt := gt_of (List.mem_of_getElem? (i := 463) (by decide +kernel)) (by decide +kernel)
theorem mw_464 : Cond.methodLink "GrindingCircuit$Simulation" (29 : Nat) (⟨"GrindingCircuit$Lot", "copyFrom", "(LGrindingCircuit$Lot;)V"⟩ : MethodName) ∈ gt := gt_of (List.mem_of_getElem? (i := 464) (by decide +kernel)) (by decide +kernel)
theorem mw_465 : Cond.instanceMethod (⟨"GrindingCircuit$Lot", "copyFrom", "(LGrindingCircuit$Lot;)V"⟩ : MethodName) ∈ gt := gt_of (List.mem_of_getElem? (i := 465) (by decide +kernel)) (by decide +kernel)
theorem mw_466 : Cond.selects "GrindingCircuit$Lot" (⟨"GrindingCircuit$Lot", "copyFrom", "(LGrindingCircuit$Lot;)V"⟩ : MethodName) (⟨"GrindingCircuit$Lot", "copyFrom", "(LGrindingCircuit$Lot;)V"⟩ : MethodName) ∈ gt := gt_of (List.mem_of_getElem? (i := 466) (by decide +kernel)) (by decide +kernel)
theorem mw_467 : Cond.code (⟨"GrindingCircuit$Lot", "copyFrom", "(LGrindingCircuit$Lot;)V"⟩ : MethodName) prog_2_method_2_code (2 : Nat) (Option.none : Option FieldType) ∈ gt := gt_of (List.mem_of_getElem? (i := 467) (by decide +kernel)) (by decide +kernel)
theorem mw_468 : Cond.methodLink "GrindingCircuit$Lot" (15 : Nat) (⟨"java/lang/System", "arraycopy", "(Ljava/lang/Object;ILjava/lang/Object;II)V"⟩ : MethodName) ∈ gt := gt_of (List.mem_of_getElem? (i := 468) (by decide +kernel)) (by decide +kernel)
theorem mw_469 : Cond.methodLink "GrindingCircuit$Simulation" (33 : Nat) (⟨"java/lang/System", "arraycopy", "(Ljava/lang/Object;ILjava/lang/Object;II)V"⟩ : MethodName) ∈ gt := gt_of (List.mem_of_getElem? (i := 469) (by decide +kernel)) (by decide +kernel)
theorem mw_470 : Cond.methodLink "GrindingCircuitLaw" (115 : Nat) (⟨"GrindingCircuit", "restore", "(I)I"⟩ : MethodName) ∈ gt := gt_of (List.mem_of_getElem? (i := 470) (by decide +kernel)) (by decide +kernel)
theorem mw_471 : Cond.instanceMethod (⟨"GrindingCircuit", "restore", "(I)I"⟩ : MethodName) ∈ gt := gt_of (List.mem_of_getElem? (i := 471) (by decide +kernel)) (by decide +kernel)
theorem mw_472 : Cond.selects "GrindingCircuit" (⟨"GrindingCircuit", "restore", "(I)I"⟩ : MethodName) (⟨"GrindingCircuit", "restore", "(I)I"⟩ : MethodName) ∈ gt := gt_of (List.mem_of_getElem? (i := 472) (by decide +kernel)) (by decide +kernel)
theorem mw_473 : Cond.code (⟨"GrindingCircuit", "restore", "(I)I"⟩ : MethodName) prog_1_method_26_code (2 : Nat) (Option.some FieldType.int) ∈ gt := gt_of (List.mem_of_getElem? (i := 473) (by decide +kernel)) (by decide +kernel)
theorem mw_474 : Cond.classLink "GrindingCircuitLaw" (10 : Nat) "GrindingCircuitModel" ∈ gt := gt_of (List.mem_of_getElem? (i := 474) (by decide +kernel)) (by decide +kernel)
theorem mw_475 : Cond.instantiable "GrindingCircuitModel" (7 : Nat) ∈ gt := gt_of (List.mem_of_getElem? (i := 475) (by decide +kernel)) (by decide +kernel)
theorem mw_476 : Cond.methodLink "GrindingCircuitLaw" (12 : Nat) (⟨"GrindingCircuitModel", "<init>", "()V"⟩ : MethodName) ∈ gt := gt_of (List.mem_of_getElem? (i := 476) (by decide +kernel)) (by decide +kernel)
theorem mw_477 : Cond.instanceMethod (⟨"GrindingCircuitModel", "<init>", "()V"⟩ : MethodName) ∈ gt := gt_of (List.mem_of_getElem? (i := 477) (by decide +kernel)) (by decide +kernel)
theorem mw_478 : Cond.code (⟨"GrindingCircuitModel", "<init>", "()V"⟩ : MethodName) prog_8_method_1_code (2 : Nat) (Option.none : Option FieldType) ∈ gt := gt_of (List.mem_of_getElem? (i := 478) (by decide +kernel)) (by decide +kernel)
theorem mw_479 : Cond.methodLink "GrindingCircuitModel" (1 : Nat) (⟨"java/lang/Object", "<init>", "()V"⟩ : MethodName) ∈ gt := gt_of (List.mem_of_getElem? (i := 479) (by decide +kernel)) (by decide +kernel)
theorem mw_480 : Cond.fieldLink "GrindingCircuitModel" (7 : Nat) "GrindingCircuitModel" "at" "[I" ∈ gt := gt_of (List.mem_of_getElem? (i := 480) (by decide +kernel)) (by decide +kernel)
theorem mw_481 : Cond.fieldLink "GrindingCircuitModel" (13 : Nat) "GrindingCircuitModel" "slots" "[I" ∈ gt := gt_of (List.mem_of_getElem? (i := 481) (by decide +kernel)) (by decide +kernel)
theorem mw_482 : Cond.fieldLink "GrindingCircuitModel" (16 : Nat) "GrindingCircuitModel" "isSaved" "[Z" ∈ gt := gt_of (List.mem_of_getElem? (i := 482) (by decide +kernel)) (by decide +kernel)
theorem mw_483 : Cond.fieldLink "GrindingCircuitModel" (20 : Nat) "GrindingCircuitModel" "returns" "[I" ∈ gt := gt_of (List.mem_of_getElem? (i := 483) (by decide +kernel)) (by decide +kernel)
theorem mw_484 : Cond.fieldLink "GrindingCircuitModel" (23 : Nat) "GrindingCircuitModel" "loads" "[J" ∈ gt := gt_of (List.mem_of_getElem? (i := 484) (by decide +kernel)) (by decide +kernel)
theorem mw_485 : Cond.fieldLink "GrindingCircuitModel" (45 : Nat) "GrindingCircuitModel" "below" "J" ∈ gt := gt_of (List.mem_of_getElem? (i := 485) (by decide +kernel)) (by decide +kernel)
theorem mw_486 : Cond.fieldLink "GrindingCircuitModel" (27 : Nat) "GrindingCircuitModel" "fresh" "[I" ∈ gt := gt_of (List.mem_of_getElem? (i := 486) (by decide +kernel)) (by decide +kernel)
theorem mw_487 : Cond.laysFinal "GrindingCircuitModel" "GrindingCircuitModel" "at" "[I" ∈ gt := gt_of (List.mem_of_getElem? (i := 487) (by decide +kernel)) (by decide +kernel)
theorem mw_489 : Cond.laysFinal "GrindingCircuitModel" "GrindingCircuitModel" "slots" "[I" ∈ gt := gt_of (List.mem_of_getElem? (i := 489) (by decide +kernel)) (by decide +kernel)
theorem mw_491 : Cond.laysFinal "GrindingCircuitModel" "GrindingCircuitModel" "isSaved" "[Z" ∈ gt := gt_of (List.mem_of_getElem? (i := 491) (by decide +kernel)) (by decide +kernel)
theorem mw_493 : Cond.laysFinal "GrindingCircuitModel" "GrindingCircuitModel" "returns" "[I" ∈ gt := gt_of (List.mem_of_getElem? (i := 493) (by decide +kernel)) (by decide +kernel)
theorem mw_495 : Cond.laysFinal "GrindingCircuitModel" "GrindingCircuitModel" "loads" "[J" ∈ gt := gt_of (List.mem_of_getElem? (i := 495) (by decide +kernel)) (by decide +kernel)
theorem mw_497 : Cond.lays "GrindingCircuitModel" "GrindingCircuitModel" "below" "J" ∈ gt := gt_of (List.mem_of_getElem? (i := 497) (by decide +kernel)) (by decide +kernel)
theorem mw_499 : Cond.laysFinal "GrindingCircuitModel" "GrindingCircuitModel" "fresh" "[I" ∈ gt := gt_of (List.mem_of_getElem? (i := 499) (by decide +kernel)) (by decide +kernel)
theorem mw_502 : Cond.methodLink "GrindingCircuitLaw" (17 : Nat) (⟨"GrindingCircuitModel", "setBreakage", "(IIII)I"⟩ : MethodName) ∈ gt := gt_of (List.mem_of_getElem? (i := 502) (by decide +kernel)) (by decide +kernel)
theorem mw_503 : Cond.instanceMethod (⟨"GrindingCircuitModel", "setBreakage", "(IIII)I"⟩ : MethodName) ∈ gt := gt_of (List.mem_of_getElem? (i := 503) (by decide +kernel)) (by decide +kernel)
theorem mw_504 : Cond.selects "GrindingCircuitModel" (⟨"GrindingCircuitModel", "setBreakage", "(IIII)I"⟩ : MethodName) (⟨"GrindingCircuitModel", "setBreakage", "(IIII)I"⟩ : MethodName) ∈ gt := gt_of (List.mem_of_getElem? (i := 504) (by decide +kernel)) (by decide +kernel)
theorem mw_505 : Cond.code (⟨"GrindingCircuitModel", "setBreakage", "(IIII)I"⟩ : MethodName) prog_8_method_5_code (7 : Nat) (Option.some FieldType.int) ∈ gt := gt_of (List.mem_of_getElem? (i := 505) (by decide +kernel)) (by decide +kernel)
theorem mw_506 : Cond.methodLink "GrindingCircuitModel" (34 : Nat) (⟨"GrindingCircuitModel", "isSize", "(I)Z"⟩ : MethodName) ∈ gt := gt_of (List.mem_of_getElem? (i := 506) (by decide +kernel)) (by decide +kernel)
theorem mw_507 : Cond.static (⟨"GrindingCircuitModel", "isSize", "(I)Z"⟩ : MethodName) ∈ gt := gt_of (List.mem_of_getElem? (i := 507) (by decide +kernel)) (by decide +kernel)
theorem mw_508 : Cond.code (⟨"GrindingCircuitModel", "isSize", "(I)Z"⟩ : MethodName) prog_8_method_3_code (1 : Nat) (Option.some FieldType.boolean) ∈ gt := gt_of (List.mem_of_getElem? (i := 508) (by decide +kernel)) (by decide +kernel)
theorem mw_509 : Cond.methodLink "GrindingCircuitModel" (30 : Nat) (⟨"GrindingCircuitModel", "in", "(III)Z"⟩ : MethodName) ∈ gt := gt_of (List.mem_of_getElem? (i := 509) (by decide +kernel)) (by decide +kernel)
theorem mw_510 : Cond.static (⟨"GrindingCircuitModel", "in", "(III)Z"⟩ : MethodName) ∈ gt := gt_of (List.mem_of_getElem? (i := 510) (by decide +kernel)) (by decide +kernel)
theorem mw_511 : Cond.code (⟨"GrindingCircuitModel", "in", "(III)Z"⟩ : MethodName) prog_8_method_2_code (3 : Nat) (Option.some FieldType.boolean) ∈ gt := gt_of (List.mem_of_getElem? (i := 511) (by decide +kernel)) (by decide +kernel)
theorem mw_512 : Cond.methodLink "GrindingCircuitLaw" (22 : Nat) (⟨"GrindingCircuitModel", "share", "(II)I"⟩ : MethodName) ∈ gt := gt_of (List.mem_of_getElem? (i := 512) (by decide +kernel)) (by decide +kernel)
theorem mw_513 : Cond.instanceMethod (⟨"GrindingCircuitModel", "share", "(II)I"⟩ : MethodName) ∈ gt := gt_of (List.mem_of_getElem? (i := 513) (by decide +kernel)) (by decide +kernel)
theorem mw_514 : Cond.selects "GrindingCircuitModel" (⟨"GrindingCircuitModel", "share", "(II)I"⟩ : MethodName) (⟨"GrindingCircuitModel", "share", "(II)I"⟩ : MethodName) ∈ gt := gt_of (List.mem_of_getElem? (i := 514) (by decide +kernel)) (by decide +kernel)
theorem mw_515 : Cond.code (⟨"GrindingCircuitModel", "share", "(II)I"⟩ : MethodName) prog_8_method_6_code (3 : Nat) (Option.some FieldType.int) ∈ gt := gt_of (List.mem_of_getElem? (i := 515) (by decide +kernel)) (by decide +kernel)
theorem mw_516 : Cond.methodLink "GrindingCircuitModel" (38 : Nat) (⟨"GrindingCircuitModel", "shareOf", "(II)I"⟩ : MethodName) ∈ gt := gt_of (List.mem_of_getElem? (i := 516) (by decide +kernel)) (by decide +kernel)
theorem mw_518 : Cond.instanceMethod (⟨"GrindingCircuitModel", "shareOf", "(II)I"⟩ : MethodName) ∈ gt := gt_of (List.mem_of_getElem? (i := 518) (by decide +kernel)) (by decide +kernel)
theorem mw_519 : Cond.code (⟨"GrindingCircuitModel", "shareOf", "(II)I"⟩ : MethodName) prog_8_method_4_code (3 : Nat) (Option.some FieldType.int) ∈ gt := gt_of (List.mem_of_getElem? (i := 519) (by decide +kernel)) (by decide +kernel)
theorem mw_520 : Cond.methodLink "GrindingCircuitLaw" (26 : Nat) (⟨"GrindingCircuitModel", "setReturn", "(II)I"⟩ : MethodName) ∈ gt := gt_of (List.mem_of_getElem? (i := 520) (by decide +kernel)) (by decide +kernel)
theorem mw_521 : Cond.instanceMethod (⟨"GrindingCircuitModel", "setReturn", "(II)I"⟩ : MethodName) ∈ gt := gt_of (List.mem_of_getElem? (i := 521) (by decide +kernel)) (by decide +kernel)
theorem mw_522 : Cond.selects "GrindingCircuitModel" (⟨"GrindingCircuitModel", "setReturn", "(II)I"⟩ : MethodName) (⟨"GrindingCircuitModel", "setReturn", "(II)I"⟩ : MethodName) ∈ gt := gt_of (List.mem_of_getElem? (i := 522) (by decide +kernel)) (by decide +kernel)
theorem mw_523 : Cond.code (⟨"GrindingCircuitModel", "setReturn", "(II)I"⟩ : MethodName) prog_8_method_8_code (3 : Nat) (Option.some FieldType.int) ∈ gt := gt_of (List.mem_of_getElem? (i := 523) (by decide +kernel)) (by decide +kernel)
theorem mw_524 : Cond.methodLink "GrindingCircuitModel" (42 : Nat) (⟨"GrindingCircuitModel", "set", "(II)I"⟩ : MethodName) ∈ gt := gt_of (List.mem_of_getElem? (i := 524) (by decide +kernel)) (by decide +kernel)
theorem mw_526 : Cond.instanceMethod (⟨"GrindingCircuitModel", "set", "(II)I"⟩ : MethodName) ∈ gt := gt_of (List.mem_of_getElem? (i := 526) (by decide +kernel)) (by decide +kernel)
theorem mw_527 : Cond.code (⟨"GrindingCircuitModel", "set", "(II)I"⟩ : MethodName) prog_8_method_7_code (4 : Nat) (Option.some FieldType.int) ∈ gt := gt_of (List.mem_of_getElem? (i := 527) (by decide +kernel)) (by decide +kernel)
theorem mw_528 : Cond.methodLink "GrindingCircuitLaw" (30 : Nat) (⟨"GrindingCircuitModel", "setWork", "(II)I"⟩ : MethodName) ∈ gt := gt_of (List.mem_of_getElem? (i := 528) (by decide +kernel)) (by decide +kernel)
theorem mw_529 : Cond.instanceMethod (⟨"GrindingCircuitModel", "setWork", "(II)I"⟩ : MethodName) ∈ gt := gt_of (List.mem_of_getElem? (i := 529) (by decide +kernel)) (by decide +kernel)
theorem mw_530 : Cond.selects "GrindingCircuitModel" (⟨"GrindingCircuitModel", "setWork", "(II)I"⟩ : MethodName) (⟨"GrindingCircuitModel", "setWork", "(II)I"⟩ : MethodName) ∈ gt := gt_of (List.mem_of_getElem? (i := 530) (by decide +kernel)) (by decide +kernel)
theorem mw_531 : Cond.code (⟨"GrindingCircuitModel", "setWork", "(II)I"⟩ : MethodName) prog_8_method_9_code (3 : Nat) (Option.some FieldType.int) ∈ gt := gt_of (List.mem_of_getElem? (i := 531) (by decide +kernel)) (by decide +kernel)
theorem mw_532 : Cond.methodLink "GrindingCircuitLaw" (34 : Nat) (⟨"GrindingCircuitModel", "setFeed", "(II)I"⟩ : MethodName) ∈ gt := gt_of (List.mem_of_getElem? (i := 532) (by decide +kernel)) (by decide +kernel)
theorem mw_533 : Cond.instanceMethod (⟨"GrindingCircuitModel", "setFeed", "(II)I"⟩ : MethodName) ∈ gt := gt_of (List.mem_of_getElem? (i := 533) (by decide +kernel)) (by decide +kernel)
theorem mw_534 : Cond.selects "GrindingCircuitModel" (⟨"GrindingCircuitModel", "setFeed", "(II)I"⟩ : MethodName) (⟨"GrindingCircuitModel", "setFeed", "(II)I"⟩ : MethodName) ∈ gt := gt_of (List.mem_of_getElem? (i := 534) (by decide +kernel)) (by decide +kernel)
theorem mw_535 : Cond.code (⟨"GrindingCircuitModel", "setFeed", "(II)I"⟩ : MethodName) prog_8_method_10_code (3 : Nat) (Option.some FieldType.int) ∈ gt := gt_of (List.mem_of_getElem? (i := 535) (by decide +kernel)) (by decide +kernel)
theorem mw_536 : Cond.methodLink "GrindingCircuitLaw" (39 : Nat) (⟨"GrindingCircuitModel", "load", "(II)J"⟩ : MethodName) ∈ gt := gt_of (List.mem_of_getElem? (i := 536) (by decide +kernel)) (by decide +kernel)
theorem mw_537 : Cond.instanceMethod (⟨"GrindingCircuitModel", "load", "(II)J"⟩ : MethodName) ∈ gt := gt_of (List.mem_of_getElem? (i := 537) (by decide +kernel)) (by decide +kernel)
theorem mw_538 : Cond.selects "GrindingCircuitModel" (⟨"GrindingCircuitModel", "load", "(II)J"⟩ : MethodName) (⟨"GrindingCircuitModel", "load", "(II)J"⟩ : MethodName) ∈ gt := gt_of (List.mem_of_getElem? (i := 538) (by decide +kernel)) (by decide +kernel)
theorem mw_539 : Cond.code (⟨"GrindingCircuitModel", "load", "(II)J"⟩ : MethodName) prog_8_method_17_code (4 : Nat) (Option.some FieldType.long) ∈ gt := gt_of (List.mem_of_getElem? (i := 539) (by decide +kernel)) (by decide +kernel)
theorem mw_540 : Cond.methodLink "GrindingCircuitModel" (61 : Nat) (⟨"GrindingCircuitModel", "wrongSteady", "(II)I"⟩ : MethodName) ∈ gt := gt_of (List.mem_of_getElem? (i := 540) (by decide +kernel)) (by decide +kernel)
theorem mw_542 : Cond.instanceMethod (⟨"GrindingCircuitModel", "wrongSteady", "(II)I"⟩ : MethodName) ∈ gt := gt_of (List.mem_of_getElem? (i := 542) (by decide +kernel)) (by decide +kernel)
theorem mw_543 : Cond.code (⟨"GrindingCircuitModel", "wrongSteady", "(II)I"⟩ : MethodName) prog_8_method_16_code (3 : Nat) (Option.some FieldType.int) ∈ gt := gt_of (List.mem_of_getElem? (i := 543) (by decide +kernel)) (by decide +kernel)
theorem mw_544 : Cond.methodLink "GrindingCircuitModel" (51 : Nat) (⟨"GrindingCircuitModel", "isPart", "(I)Z"⟩ : MethodName) ∈ gt := gt_of (List.mem_of_getElem? (i := 544) (by decide +kernel)) (by decide +kernel)
theorem mw_545 : Cond.static (⟨"GrindingCircuitModel", "isPart", "(I)Z"⟩ : MethodName) ∈ gt := gt_of (List.mem_of_getElem? (i := 545) (by decide +kernel)) (by decide +kernel)
theorem mw_546 : Cond.code (⟨"GrindingCircuitModel", "isPart", "(I)Z"⟩ : MethodName) prog_8_method_15_code (1 : Nat) (Option.some FieldType.boolean) ∈ gt := gt_of (List.mem_of_getElem? (i := 546) (by decide +kernel)) (by decide +kernel)
theorem mw_547 : Cond.methodLink "GrindingCircuitModel" (54 : Nat) (⟨"GrindingCircuitModel", "asSet", "()V"⟩ : MethodName) ∈ gt := gt_of (List.mem_of_getElem? (i := 547) (by decide +kernel)) (by decide +kernel)
theorem mw_549 : Cond.instanceMethod (⟨"GrindingCircuitModel", "asSet", "()V"⟩ : MethodName) ∈ gt := gt_of (List.mem_of_getElem? (i := 549) (by decide +kernel)) (by decide +kernel)
theorem mw_550 : Cond.code (⟨"GrindingCircuitModel", "asSet", "()V"⟩ : MethodName) prog_8_method_11_code (2 : Nat) (Option.none : Option FieldType) ∈ gt := gt_of (List.mem_of_getElem? (i := 550) (by decide +kernel)) (by decide +kernel)
theorem mw_551 : Cond.methodLink "GrindingCircuitModel" (57 : Nat) (⟨"GrindingCircuitModel", "layLoads", "()Z"⟩ : MethodName) ∈ gt := gt_of (List.mem_of_getElem? (i := 551) (by decide +kernel)) (by decide +kernel)
theorem mw_553 : Cond.instanceMethod (⟨"GrindingCircuitModel", "layLoads", "()Z"⟩ : MethodName) ∈ gt := gt_of (List.mem_of_getElem? (i := 553) (by decide +kernel)) (by decide +kernel)
theorem mw_554 : Cond.code (⟨"GrindingCircuitModel", "layLoads", "()Z"⟩ : MethodName) prog_8_method_13_code (8 : Nat) (Option.some FieldType.boolean) ∈ gt := gt_of (List.mem_of_getElem? (i := 554) (by decide +kernel)) (by decide +kernel)
theorem mw_555 : Cond.constantLong "GrindingCircuitModel" (49 : Nat) (100 : Int64) ∈ gt := gt_of (List.mem_of_getElem? (i := 555) (by decide +kernel)) (by decide +kernel)
theorem mw_556 : Cond.methodLink "GrindingCircuitModel" (64 : Nat) (⟨"GrindingCircuitModel", "part", "(JJI)J"⟩ : MethodName) ∈ gt := gt_of (List.mem_of_getElem? (i := 556) (by decide +kernel)) (by decide +kernel)
theorem mw_557 : Cond.static (⟨"GrindingCircuitModel", "part", "(JJI)J"⟩ : MethodName) ∈ gt := gt_of (List.mem_of_getElem? (i := 557) (by decide +kernel)) (by decide +kernel)
theorem mw_558 : Cond.code (⟨"GrindingCircuitModel", "part", "(JJI)J"⟩ : MethodName) prog_8_method_14_code (11 : Nat) (Option.some FieldType.long) ∈ gt := gt_of (List.mem_of_getElem? (i := 558) (by decide +kernel)) (by decide +kernel)
theorem mw_559 : Cond.methodLink "GrindingCircuitLaw" (43 : Nat) (⟨"GrindingCircuitModel", "product", "(II)J"⟩ : MethodName) ∈ gt := gt_of (List.mem_of_getElem? (i := 559) (by decide +kernel)) (by decide +kernel)
theorem mw_560 : Cond.instanceMethod (⟨"GrindingCircuitModel", "product", "(II)J"⟩ : MethodName) ∈ gt := gt_of (List.mem_of_getElem? (i := 560) (by decide +kernel)) (by decide +kernel)
theorem mw_561 : Cond.selects "GrindingCircuitModel" (⟨"GrindingCircuitModel", "product", "(II)J"⟩ : MethodName) (⟨"GrindingCircuitModel", "product", "(II)J"⟩ : MethodName) ∈ gt := gt_of (List.mem_of_getElem? (i := 561) (by decide +kernel)) (by decide +kernel)
theorem mw_562 : Cond.code (⟨"GrindingCircuitModel", "product", "(II)J"⟩ : MethodName) prog_8_method_18_code (7 : Nat) (Option.some FieldType.long) ∈ gt := gt_of (List.mem_of_getElem? (i := 562) (by decide +kernel)) (by decide +kernel)
theorem mw_563 : Cond.methodLink "GrindingCircuitLaw" (48 : Nat) (⟨"GrindingCircuitModel", "circulatingLoad", "(I)J"⟩ : MethodName) ∈ gt := gt_of (List.mem_of_getElem? (i := 563) (by decide +kernel)) (by decide +kernel)
theorem mw_564 : Cond.instanceMethod (⟨"GrindingCircuitModel", "circulatingLoad", "(I)J"⟩ : MethodName) ∈ gt := gt_of (List.mem_of_getElem? (i := 564) (by decide +kernel)) (by decide +kernel)
theorem mw_565 : Cond.selects "GrindingCircuitModel" (⟨"GrindingCircuitModel", "circulatingLoad", "(I)J"⟩ : MethodName) (⟨"GrindingCircuitModel", "circulatingLoad", "(I)J"⟩ : MethodName) ∈ gt := gt_of (List.mem_of_getElem? (i := 565) (by decide +kernel)) (by decide +kernel)
theorem mw_566 : Cond.code (⟨"GrindingCircuitModel", "circulatingLoad", "(I)J"⟩ : MethodName) prog_8_method_19_code (8 : Nat) (Option.some FieldType.long) ∈ gt := gt_of (List.mem_of_getElem? (i := 566) (by decide +kernel)) (by decide +kernel)
theorem mw_567 : Cond.constantLong "GrindingCircuitModel" (68 : Nat) (-7 : Int64) ∈ gt := gt_of (List.mem_of_getElem? (i := 567) (by decide +kernel)) (by decide +kernel)
theorem mw_568 : Cond.methodLink "GrindingCircuitLaw" (52 : Nat) (⟨"GrindingCircuitModel", "power", "(I)J"⟩ : MethodName) ∈ gt := gt_of (List.mem_of_getElem? (i := 568) (by decide +kernel)) (by decide +kernel)
theorem mw_569 : Cond.instanceMethod (⟨"GrindingCircuitModel", "power", "(I)J"⟩ : MethodName) ∈ gt := gt_of (List.mem_of_getElem? (i := 569) (by decide +kernel)) (by decide +kernel)
theorem mw_570 : Cond.selects "GrindingCircuitModel" (⟨"GrindingCircuitModel", "power", "(I)J"⟩ : MethodName) (⟨"GrindingCircuitModel", "power", "(I)J"⟩ : MethodName) ∈ gt := gt_of (List.mem_of_getElem? (i := 570) (by decide +kernel)) (by decide +kernel)
theorem mw_571 : Cond.code (⟨"GrindingCircuitModel", "power", "(I)J"⟩ : MethodName) prog_8_method_21_code (3 : Nat) (Option.some FieldType.long) ∈ gt := gt_of (List.mem_of_getElem? (i := 571) (by decide +kernel)) (by decide +kernel)
theorem mw_572 : Cond.methodLink "GrindingCircuitModel" (70 : Nat) (⟨"GrindingCircuitModel", "powerOf", "()J"⟩ : MethodName) ∈ gt := gt_of (List.mem_of_getElem? (i := 572) (by decide +kernel)) (by decide +kernel)
theorem mw_574 : Cond.instanceMethod (⟨"GrindingCircuitModel", "powerOf", "()J"⟩ : MethodName) ∈ gt := gt_of (List.mem_of_getElem? (i := 574) (by decide +kernel)) (by decide +kernel)
theorem mw_575 : Cond.code (⟨"GrindingCircuitModel", "powerOf", "()J"⟩ : MethodName) prog_8_method_20_code (4 : Nat) (Option.some FieldType.long) ∈ gt := gt_of (List.mem_of_getElem? (i := 575) (by decide +kernel)) (by decide +kernel)
theorem mw_576 : Cond.methodLink "GrindingCircuitLaw" (56 : Nat) (⟨"GrindingCircuitModel", "cutPower", "(II)J"⟩ : MethodName) ∈ gt := gt_of (List.mem_of_getElem? (i := 576) (by decide +kernel)) (by decide +kernel)
theorem mw_577 : Cond.instanceMethod (⟨"GrindingCircuitModel", "cutPower", "(II)J"⟩ : MethodName) ∈ gt := gt_of (List.mem_of_getElem? (i := 577) (by decide +kernel)) (by decide +kernel)
theorem mw_578 : Cond.selects "GrindingCircuitModel" (⟨"GrindingCircuitModel", "cutPower", "(II)J"⟩ : MethodName) (⟨"GrindingCircuitModel", "cutPower", "(II)J"⟩ : MethodName) ∈ gt := gt_of (List.mem_of_getElem? (i := 578) (by decide +kernel)) (by decide +kernel)
theorem mw_579 : Cond.code (⟨"GrindingCircuitModel", "cutPower", "(II)J"⟩ : MethodName) prog_8_method_22_code (3 : Nat) (Option.some FieldType.long) ∈ gt := gt_of (List.mem_of_getElem? (i := 579) (by decide +kernel)) (by decide +kernel)
theorem mw_580 : Cond.constantLong "GrindingCircuitModel" (74 : Nat) (-3 : Int64) ∈ gt := gt_of (List.mem_of_getElem? (i := 580) (by decide +kernel)) (by decide +kernel)
theorem mw_581 : Cond.methodLink "GrindingCircuitModel" (76 : Nat) (⟨"GrindingCircuitModel", "asCut", "(I)V"⟩ : MethodName) ∈ gt := gt_of (List.mem_of_getElem? (i := 581) (by decide +kernel)) (by decide +kernel)
theorem mw_583 : Cond.instanceMethod (⟨"GrindingCircuitModel", "asCut", "(I)V"⟩ : MethodName) ∈ gt := gt_of (List.mem_of_getElem? (i := 583) (by decide +kernel)) (by decide +kernel)
theorem mw_584 : Cond.code (⟨"GrindingCircuitModel", "asCut", "(I)V"⟩ : MethodName) prog_8_method_12_code (3 : Nat) (Option.none : Option FieldType) ∈ gt := gt_of (List.mem_of_getElem? (i := 584) (by decide +kernel)) (by decide +kernel)
theorem mw_585 : Cond.constantLong "GrindingCircuitModel" (80 : Nat) (-5 : Int64) ∈ gt := gt_of (List.mem_of_getElem? (i := 585) (by decide +kernel)) (by decide +kernel)
theorem mw_586 : Cond.methodLink "GrindingCircuitLaw" (61 : Nat) (⟨"GrindingCircuitModel", "finestCut", "(I)I"⟩ : MethodName) ∈ gt := gt_of (List.mem_of_getElem? (i := 586) (by decide +kernel)) (by decide +kernel)
theorem mw_587 : Cond.instanceMethod (⟨"GrindingCircuitModel", "finestCut", "(I)I"⟩ : MethodName) ∈ gt := gt_of (List.mem_of_getElem? (i := 587) (by decide +kernel)) (by decide +kernel)
theorem mw_588 : Cond.selects "GrindingCircuitModel" (⟨"GrindingCircuitModel", "finestCut", "(I)I"⟩ : MethodName) (⟨"GrindingCircuitModel", "finestCut", "(I)I"⟩ : MethodName) ∈ gt := gt_of (List.mem_of_getElem? (i := 588) (by decide +kernel)) (by decide +kernel)
theorem mw_589 : Cond.code (⟨"GrindingCircuitModel", "finestCut", "(I)I"⟩ : MethodName) prog_8_method_23_code (3 : Nat) (Option.some FieldType.int) ∈ gt := gt_of (List.mem_of_getElem? (i := 589) (by decide +kernel)) (by decide +kernel)
theorem mw_590 : Cond.constant "GrindingCircuitModel" (82 : Nat) (1000000000 : Int32) ∈ gt := gt_of (List.mem_of_getElem? (i := 590) (by decide +kernel)) (by decide +kernel)
theorem mw_591 : Cond.methodLink "GrindingCircuitLaw" (65 : Nat) (⟨"GrindingCircuitModel", "addLot", "(IIII)I"⟩ : MethodName) ∈ gt := gt_of (List.mem_of_getElem? (i := 591) (by decide +kernel)) (by decide +kernel)
theorem mw_592 : Cond.instanceMethod (⟨"GrindingCircuitModel", "addLot", "(IIII)I"⟩ : MethodName) ∈ gt := gt_of (List.mem_of_getElem? (i := 592) (by decide +kernel)) (by decide +kernel)
theorem mw_593 : Cond.selects "GrindingCircuitModel" (⟨"GrindingCircuitModel", "addLot", "(IIII)I"⟩ : MethodName) (⟨"GrindingCircuitModel", "addLot", "(IIII)I"⟩ : MethodName) ∈ gt := gt_of (List.mem_of_getElem? (i := 593) (by decide +kernel)) (by decide +kernel)
theorem mw_594 : Cond.code (⟨"GrindingCircuitModel", "addLot", "(IIII)I"⟩ : MethodName) prog_8_method_38_code (6 : Nat) (Option.some FieldType.int) ∈ gt := gt_of (List.mem_of_getElem? (i := 594) (by decide +kernel)) (by decide +kernel)
theorem mw_595 : Cond.methodLink "GrindingCircuitModel" (118 : Nat) (⟨"GrindingCircuitModel", "areMasses", "(IIII)Z"⟩ : MethodName) ∈ gt := gt_of (List.mem_of_getElem? (i := 595) (by decide +kernel)) (by decide +kernel)
theorem mw_596 : Cond.static (⟨"GrindingCircuitModel", "areMasses", "(IIII)Z"⟩ : MethodName) ∈ gt := gt_of (List.mem_of_getElem? (i := 596) (by decide +kernel)) (by decide +kernel)
theorem mw_597 : Cond.code (⟨"GrindingCircuitModel", "areMasses", "(IIII)Z"⟩ : MethodName) prog_8_method_36_code (4 : Nat) (Option.some FieldType.boolean) ∈ gt := gt_of (List.mem_of_getElem? (i := 597) (by decide +kernel)) (by decide +kernel)
theorem mw_598 : Cond.methodLink "GrindingCircuitModel" (115 : Nat) (⟨"GrindingCircuitModel", "isMass", "(I)Z"⟩ : MethodName) ∈ gt := gt_of (List.mem_of_getElem? (i := 598) (by decide +kernel)) (by decide +kernel)
theorem mw_599 : Cond.static (⟨"GrindingCircuitModel", "isMass", "(I)Z"⟩ : MethodName) ∈ gt := gt_of (List.mem_of_getElem? (i := 599) (by decide +kernel)) (by decide +kernel)
theorem mw_600 : Cond.code (⟨"GrindingCircuitModel", "isMass", "(I)Z"⟩ : MethodName) prog_8_method_35_code (1 : Nat) (Option.some FieldType.boolean) ∈ gt := gt_of (List.mem_of_getElem? (i := 600) (by decide +kernel)) (by decide +kernel)
theorem mw_601 : Cond.methodLink "GrindingCircuitModel" (122 : Nat) (⟨"GrindingCircuitModel", "make", "(IIII)I"⟩ : MethodName) ∈ gt := gt_of (List.mem_of_getElem? (i := 601) (by decide +kernel)) (by decide +kernel)
theorem mw_603 : Cond.instanceMethod (⟨"GrindingCircuitModel", "make", "(IIII)I"⟩ : MethodName) ∈ gt := gt_of (List.mem_of_getElem? (i := 603) (by decide +kernel)) (by decide +kernel)
theorem mw_604 : Cond.code (⟨"GrindingCircuitModel", "make", "(IIII)I"⟩ : MethodName) prog_8_method_37_code (6 : Nat) (Option.some FieldType.int) ∈ gt := gt_of (List.mem_of_getElem? (i := 604) (by decide +kernel)) (by decide +kernel)
theorem mw_605 : Cond.methodLink "GrindingCircuitModel" (83 : Nat) (⟨"GrindingCircuitModel", "lot", "(II)I"⟩ : MethodName) ∈ gt := gt_of (List.mem_of_getElem? (i := 605) (by decide +kernel)) (by decide +kernel)
theorem mw_606 : Cond.static (⟨"GrindingCircuitModel", "lot", "(II)I"⟩ : MethodName) ∈ gt := gt_of (List.mem_of_getElem? (i := 606) (by decide +kernel)) (by decide +kernel)
theorem mw_607 : Cond.code (⟨"GrindingCircuitModel", "lot", "(II)I"⟩ : MethodName) prog_8_method_24_code (2 : Nat) (Option.some FieldType.int) ∈ gt := gt_of (List.mem_of_getElem? (i := 607) (by decide +kernel)) (by decide +kernel)
theorem mw_608 : Cond.methodLink "GrindingCircuitModel" (106 : Nat) (⟨"GrindingCircuitModel", "comes", "(I)V"⟩ : MethodName) ∈ gt := gt_of (List.mem_of_getElem? (i := 608) (by decide +kernel)) (by decide +kernel)
theorem mw_610 : Cond.instanceMethod (⟨"GrindingCircuitModel", "comes", "(I)V"⟩ : MethodName) ∈ gt := gt_of (List.mem_of_getElem? (i := 610) (by decide +kernel)) (by decide +kernel)
theorem mw_611 : Cond.code (⟨"GrindingCircuitModel", "comes", "(I)V"⟩ : MethodName) prog_8_method_31_code (2 : Nat) (Option.none : Option FieldType) ∈ gt := gt_of (List.mem_of_getElem? (i := 611) (by decide +kernel)) (by decide +kernel)
theorem mw_612 : Cond.methodLink "GrindingCircuitModel" (112 : Nat) (⟨"GrindingCircuitModel", "start", "()V"⟩ : MethodName) ∈ gt := gt_of (List.mem_of_getElem? (i := 612) (by decide +kernel)) (by decide +kernel)
theorem mw_614 : Cond.instanceMethod (⟨"GrindingCircuitModel", "start", "()V"⟩ : MethodName) ∈ gt := gt_of (List.mem_of_getElem? (i := 614) (by decide +kernel)) (by decide +kernel)
theorem mw_615 : Cond.code (⟨"GrindingCircuitModel", "start", "()V"⟩ : MethodName) prog_8_method_32_code (2 : Nat) (Option.none : Option FieldType) ∈ gt := gt_of (List.mem_of_getElem? (i := 615) (by decide +kernel)) (by decide +kernel)
theorem mw_616 : Cond.methodLink "GrindingCircuitModel" (103 : Nat) (⟨"GrindingCircuitModel", "inBin", "(I)I"⟩ : MethodName) ∈ gt := gt_of (List.mem_of_getElem? (i := 616) (by decide +kernel)) (by decide +kernel)
theorem mw_618 : Cond.instanceMethod (⟨"GrindingCircuitModel", "inBin", "(I)I"⟩ : MethodName) ∈ gt := gt_of (List.mem_of_getElem? (i := 618) (by decide +kernel)) (by decide +kernel)
theorem mw_619 : Cond.code (⟨"GrindingCircuitModel", "inBin", "(I)I"⟩ : MethodName) prog_8_method_30_code (3 : Nat) (Option.some FieldType.int) ∈ gt := gt_of (List.mem_of_getElem? (i := 619) (by decide +kernel)) (by decide +kernel)
theorem mw_620 : Cond.methodLink "GrindingCircuitModel" (86 : Nat) (⟨"GrindingCircuitModel", "of", "(II)I"⟩ : MethodName) ∈ gt := gt_of (List.mem_of_getElem? (i := 620) (by decide +kernel)) (by decide +kernel)
theorem mw_622 : Cond.instanceMethod (⟨"GrindingCircuitModel", "of", "(II)I"⟩ : MethodName) ∈ gt := gt_of (List.mem_of_getElem? (i := 622) (by decide +kernel)) (by decide +kernel)
theorem mw_623 : Cond.code (⟨"GrindingCircuitModel", "of", "(II)I"⟩ : MethodName) prog_8_method_25_code (3 : Nat) (Option.some FieldType.int) ∈ gt := gt_of (List.mem_of_getElem? (i := 623) (by decide +kernel)) (by decide +kernel)
theorem mw_624 : Cond.methodLink "GrindingCircuitModel" (100 : Nat) (⟨"GrindingCircuitModel", "place", "(I)I"⟩ : MethodName) ∈ gt := gt_of (List.mem_of_getElem? (i := 624) (by decide +kernel)) (by decide +kernel)
theorem mw_626 : Cond.instanceMethod (⟨"GrindingCircuitModel", "place", "(I)I"⟩ : MethodName) ∈ gt := gt_of (List.mem_of_getElem? (i := 626) (by decide +kernel)) (by decide +kernel)
theorem mw_627 : Cond.code (⟨"GrindingCircuitModel", "place", "(I)I"⟩ : MethodName) prog_8_method_29_code (4 : Nat) (Option.some FieldType.int) ∈ gt := gt_of (List.mem_of_getElem? (i := 627) (by decide +kernel)) (by decide +kernel)
theorem mw_628 : Cond.methodLink "GrindingCircuitModel" (96 : Nat) (⟨"GrindingCircuitModel", "isAhead", "(II)Z"⟩ : MethodName) ∈ gt := gt_of (List.mem_of_getElem? (i := 628) (by decide +kernel)) (by decide +kernel)
theorem mw_630 : Cond.instanceMethod (⟨"GrindingCircuitModel", "isAhead", "(II)Z"⟩ : MethodName) ∈ gt := gt_of (List.mem_of_getElem? (i := 630) (by decide +kernel)) (by decide +kernel)
theorem mw_631 : Cond.code (⟨"GrindingCircuitModel", "isAhead", "(II)Z"⟩ : MethodName) prog_8_method_28_code (4 : Nat) (Option.some FieldType.boolean) ∈ gt := gt_of (List.mem_of_getElem? (i := 631) (by decide +kernel)) (by decide +kernel)
theorem mw_632 : Cond.methodLink "GrindingCircuitModel" (93 : Nat) (⟨"GrindingCircuitModel", "ahead", "(II)I"⟩ : MethodName) ∈ gt := gt_of (List.mem_of_getElem? (i := 632) (by decide +kernel)) (by decide +kernel)
theorem mw_634 : Cond.instanceMethod (⟨"GrindingCircuitModel", "ahead", "(II)I"⟩ : MethodName) ∈ gt := gt_of (List.mem_of_getElem? (i := 634) (by decide +kernel)) (by decide +kernel)
theorem mw_635 : Cond.code (⟨"GrindingCircuitModel", "ahead", "(II)I"⟩ : MethodName) prog_8_method_27_code (4 : Nat) (Option.some FieldType.int) ∈ gt := gt_of (List.mem_of_getElem? (i := 635) (by decide +kernel)) (by decide +kernel)
theorem mw_636 : Cond.methodLink "GrindingCircuitModel" (89 : Nat) (⟨"GrindingCircuitModel", "weight", "(I)I"⟩ : MethodName) ∈ gt := gt_of (List.mem_of_getElem? (i := 636) (by decide +kernel)) (by decide +kernel)
theorem mw_638 : Cond.instanceMethod (⟨"GrindingCircuitModel", "weight", "(I)I"⟩ : MethodName) ∈ gt := gt_of (List.mem_of_getElem? (i := 638) (by decide +kernel)) (by decide +kernel)
theorem mw_639 : Cond.code (⟨"GrindingCircuitModel", "weight", "(I)I"⟩ : MethodName) prog_8_method_26_code (2 : Nat) (Option.some FieldType.int) ∈ gt := gt_of (List.mem_of_getElem? (i := 639) (by decide +kernel)) (by decide +kernel)
theorem mw_640 : Cond.methodLink "GrindingCircuitLaw" (70 : Nat) (⟨"GrindingCircuitModel", "planLot", "(IIIII)I"⟩ : MethodName) ∈ gt := gt_of (List.mem_of_getElem? (i := 640) (by decide +kernel)) (by decide +kernel)
theorem mw_641 : Cond.instanceMethod (⟨"GrindingCircuitModel", "planLot", "(IIIII)I"⟩ : MethodName) ∈ gt := gt_of (List.mem_of_getElem? (i := 641) (by decide +kernel)) (by decide +kernel)
theorem mw_642 : Cond.selects "GrindingCircuitModel" (⟨"GrindingCircuitModel", "planLot", "(IIIII)I"⟩ : MethodName) (⟨"GrindingCircuitModel", "planLot", "(IIIII)I"⟩ : MethodName) ∈ gt := gt_of (List.mem_of_getElem? (i := 642) (by decide +kernel)) (by decide +kernel)
theorem mw_643 : Cond.code (⟨"GrindingCircuitModel", "planLot", "(IIIII)I"⟩ : MethodName) prog_8_method_39_code (7 : Nat) (Option.some FieldType.int) ∈ gt := gt_of (List.mem_of_getElem? (i := 643) (by decide +kernel)) (by decide +kernel)
theorem mw_644 : Cond.methodLink "GrindingCircuitLaw" (74 : Nat) (⟨"GrindingCircuitModel", "advance", "(I)I"⟩ : MethodName) ∈ gt := gt_of (List.mem_of_getElem? (i := 644) (by decide +kernel)) (by decide +kernel)
theorem mw_645 : Cond.instanceMethod (⟨"GrindingCircuitModel", "advance", "(I)I"⟩ : MethodName) ∈ gt := gt_of (List.mem_of_getElem? (i := 645) (by decide +kernel)) (by decide +kernel)
theorem mw_646 : Cond.selects "GrindingCircuitModel" (⟨"GrindingCircuitModel", "advance", "(I)I"⟩ : MethodName) (⟨"GrindingCircuitModel", "advance", "(I)I"⟩ : MethodName) ∈ gt := gt_of (List.mem_of_getElem? (i := 646) (by decide +kernel)) (by decide +kernel)
theorem mw_647 : Cond.code (⟨"GrindingCircuitModel", "advance", "(I)I"⟩ : MethodName) prog_8_method_40_code (3 : Nat) (Option.some FieldType.int) ∈ gt := gt_of (List.mem_of_getElem? (i := 647) (by decide +kernel)) (by decide +kernel)
theorem mw_648 : Cond.methodLink "GrindingCircuitModel" (126 : Nat) (⟨"GrindingCircuitModel", "minute", "()V"⟩ : MethodName) ∈ gt := gt_of (List.mem_of_getElem? (i := 648) (by decide +kernel)) (by decide +kernel)
theorem mw_650 : Cond.instanceMethod (⟨"GrindingCircuitModel", "minute", "()V"⟩ : MethodName) ∈ gt := gt_of (List.mem_of_getElem? (i := 650) (by decide +kernel)) (by decide +kernel)
theorem mw_651 : Cond.code (⟨"GrindingCircuitModel", "minute", "()V"⟩ : MethodName) prog_8_method_34_code (2 : Nat) (Option.none : Option FieldType) ∈ gt := gt_of (List.mem_of_getElem? (i := 651) (by decide +kernel)) (by decide +kernel)
theorem mw_652 : Cond.methodLink "GrindingCircuitModel" (109 : Nat) (⟨"GrindingCircuitModel", "finish", "()V"⟩ : MethodName) ∈ gt := gt_of (List.mem_of_getElem? (i := 652) (by decide +kernel)) (by decide +kernel)
theorem mw_654 : Cond.instanceMethod (⟨"GrindingCircuitModel", "finish", "()V"⟩ : MethodName) ∈ gt := gt_of (List.mem_of_getElem? (i := 654) (by decide +kernel)) (by decide +kernel)
theorem mw_655 : Cond.code (⟨"GrindingCircuitModel", "finish", "()V"⟩ : MethodName) prog_8_method_33_code (7 : Nat) (Option.none : Option FieldType) ∈ gt := gt_of (List.mem_of_getElem? (i := 655) (by decide +kernel)) (by decide +kernel)
theorem mw_656 : Cond.methodLink "GrindingCircuitLaw" (78 : Nat) (⟨"GrindingCircuitModel", "setRate", "(I)I"⟩ : MethodName) ∈ gt := gt_of (List.mem_of_getElem? (i := 656) (by decide +kernel)) (by decide +kernel)
theorem mw_657 : Cond.instanceMethod (⟨"GrindingCircuitModel", "setRate", "(I)I"⟩ : MethodName) ∈ gt := gt_of (List.mem_of_getElem? (i := 657) (by decide +kernel)) (by decide +kernel)
theorem mw_658 : Cond.selects "GrindingCircuitModel" (⟨"GrindingCircuitModel", "setRate", "(I)I"⟩ : MethodName) (⟨"GrindingCircuitModel", "setRate", "(I)I"⟩ : MethodName) ∈ gt := gt_of (List.mem_of_getElem? (i := 658) (by decide +kernel)) (by decide +kernel)
theorem mw_659 : Cond.code (⟨"GrindingCircuitModel", "setRate", "(I)I"⟩ : MethodName) prog_8_method_41_code (2 : Nat) (Option.some FieldType.int) ∈ gt := gt_of (List.mem_of_getElem? (i := 659) (by decide +kernel)) (by decide +kernel)
theorem mw_660 : Cond.methodLink "GrindingCircuitLaw" (82 : Nat) (⟨"GrindingCircuitModel", "setRule", "(I)I"⟩ : MethodName) ∈ gt := gt_of (List.mem_of_getElem? (i := 660) (by decide +kernel)) (by decide +kernel)
theorem mw_661 : Cond.instanceMethod (⟨"GrindingCircuitModel", "setRule", "(I)I"⟩ : MethodName) ∈ gt := gt_of (List.mem_of_getElem? (i := 661) (by decide +kernel)) (by decide +kernel)
theorem mw_662 : Cond.selects "GrindingCircuitModel" (⟨"GrindingCircuitModel", "setRule", "(I)I"⟩ : MethodName) (⟨"GrindingCircuitModel", "setRule", "(I)I"⟩ : MethodName) ∈ gt := gt_of (List.mem_of_getElem? (i := 662) (by decide +kernel)) (by decide +kernel)
theorem mw_663 : Cond.code (⟨"GrindingCircuitModel", "setRule", "(I)I"⟩ : MethodName) prog_8_method_42_code (2 : Nat) (Option.some FieldType.int) ∈ gt := gt_of (List.mem_of_getElem? (i := 663) (by decide +kernel)) (by decide +kernel)
theorem mw_664 : Cond.methodLink "GrindingCircuitLaw" (86 : Nat) (⟨"GrindingCircuitModel", "bin", "(I)I"⟩ : MethodName) ∈ gt := gt_of (List.mem_of_getElem? (i := 664) (by decide +kernel)) (by decide +kernel)
theorem mw_665 : Cond.instanceMethod (⟨"GrindingCircuitModel", "bin", "(I)I"⟩ : MethodName) ∈ gt := gt_of (List.mem_of_getElem? (i := 665) (by decide +kernel)) (by decide +kernel)
theorem mw_666 : Cond.selects "GrindingCircuitModel" (⟨"GrindingCircuitModel", "bin", "(I)I"⟩ : MethodName) (⟨"GrindingCircuitModel", "bin", "(I)I"⟩ : MethodName) ∈ gt := gt_of (List.mem_of_getElem? (i := 666) (by decide +kernel)) (by decide +kernel)
theorem mw_667 : Cond.code (⟨"GrindingCircuitModel", "bin", "(I)I"⟩ : MethodName) prog_8_method_43_code (4 : Nat) (Option.some FieldType.int) ∈ gt := gt_of (List.mem_of_getElem? (i := 667) (by decide +kernel)) (by decide +kernel)
theorem mw_668 : Cond.methodLink "GrindingCircuitLaw" (90 : Nat) (⟨"GrindingCircuitModel", "mill", "(I)I"⟩ : MethodName) ∈ gt := gt_of (List.mem_of_getElem? (i := 668) (by decide +kernel)) (by decide +kernel)
theorem mw_669 : Cond.instanceMethod (⟨"GrindingCircuitModel", "mill", "(I)I"⟩ : MethodName) ∈ gt := gt_of (List.mem_of_getElem? (i := 669) (by decide +kernel)) (by decide +kernel)
theorem mw_670 : Cond.selects "GrindingCircuitModel" (⟨"GrindingCircuitModel", "mill", "(I)I"⟩ : MethodName) (⟨"GrindingCircuitModel", "mill", "(I)I"⟩ : MethodName) ∈ gt := gt_of (List.mem_of_getElem? (i := 670) (by decide +kernel)) (by decide +kernel)
theorem mw_671 : Cond.code (⟨"GrindingCircuitModel", "mill", "(I)I"⟩ : MethodName) prog_8_method_44_code (2 : Nat) (Option.some FieldType.int) ∈ gt := gt_of (List.mem_of_getElem? (i := 671) (by decide +kernel)) (by decide +kernel)
theorem mw_672 : Cond.methodLink "GrindingCircuitLaw" (94 : Nat) (⟨"GrindingCircuitModel", "state", "(I)I"⟩ : MethodName) ∈ gt := gt_of (List.mem_of_getElem? (i := 672) (by decide +kernel)) (by decide +kernel)
theorem mw_673 : Cond.instanceMethod (⟨"GrindingCircuitModel", "state", "(I)I"⟩ : MethodName) ∈ gt := gt_of (List.mem_of_getElem? (i := 673) (by decide +kernel)) (by decide +kernel)
theorem mw_674 : Cond.selects "GrindingCircuitModel" (⟨"GrindingCircuitModel", "state", "(I)I"⟩ : MethodName) (⟨"GrindingCircuitModel", "state", "(I)I"⟩ : MethodName) ∈ gt := gt_of (List.mem_of_getElem? (i := 674) (by decide +kernel)) (by decide +kernel)
theorem mw_675 : Cond.code (⟨"GrindingCircuitModel", "state", "(I)I"⟩ : MethodName) prog_8_method_46_code (2 : Nat) (Option.some FieldType.int) ∈ gt := gt_of (List.mem_of_getElem? (i := 675) (by decide +kernel)) (by decide +kernel)
theorem mw_676 : Cond.methodLink "GrindingCircuitModel" (129 : Nat) (⟨"GrindingCircuitModel", "isLot", "(I)Z"⟩ : MethodName) ∈ gt := gt_of (List.mem_of_getElem? (i := 676) (by decide +kernel)) (by decide +kernel)
theorem mw_678 : Cond.instanceMethod (⟨"GrindingCircuitModel", "isLot", "(I)Z"⟩ : MethodName) ∈ gt := gt_of (List.mem_of_getElem? (i := 678) (by decide +kernel)) (by decide +kernel)
theorem mw_679 : Cond.code (⟨"GrindingCircuitModel", "isLot", "(I)Z"⟩ : MethodName) prog_8_method_45_code (2 : Nat) (Option.some FieldType.boolean) ∈ gt := gt_of (List.mem_of_getElem? (i := 679) (by decide +kernel)) (by decide +kernel)
theorem mw_680 : Cond.methodLink "GrindingCircuitLaw" (98 : Nat) (⟨"GrindingCircuitModel", "mass", "(II)I"⟩ : MethodName) ∈ gt := gt_of (List.mem_of_getElem? (i := 680) (by decide +kernel)) (by decide +kernel)
theorem mw_681 : Cond.instanceMethod (⟨"GrindingCircuitModel", "mass", "(II)I"⟩ : MethodName) ∈ gt := gt_of (List.mem_of_getElem? (i := 681) (by decide +kernel)) (by decide +kernel)
theorem mw_682 : Cond.selects "GrindingCircuitModel" (⟨"GrindingCircuitModel", "mass", "(II)I"⟩ : MethodName) (⟨"GrindingCircuitModel", "mass", "(II)I"⟩ : MethodName) ∈ gt := gt_of (List.mem_of_getElem? (i := 682) (by decide +kernel)) (by decide +kernel)
theorem mw_683 : Cond.code (⟨"GrindingCircuitModel", "mass", "(II)I"⟩ : MethodName) prog_8_method_47_code (3 : Nat) (Option.some FieldType.int) ∈ gt := gt_of (List.mem_of_getElem? (i := 683) (by decide +kernel)) (by decide +kernel)
theorem mw_684 : Cond.methodLink "GrindingCircuitLaw" (102 : Nat) (⟨"GrindingCircuitModel", "passes", "(I)I"⟩ : MethodName) ∈ gt := gt_of (List.mem_of_getElem? (i := 684) (by decide +kernel)) (by decide +kernel)
theorem mw_685 : Cond.instanceMethod (⟨"GrindingCircuitModel", "passes", "(I)I"⟩ : MethodName) ∈ gt := gt_of (List.mem_of_getElem? (i := 685) (by decide +kernel)) (by decide +kernel)
theorem mw_686 : Cond.selects "GrindingCircuitModel" (⟨"GrindingCircuitModel", "passes", "(I)I"⟩ : MethodName) (⟨"GrindingCircuitModel", "passes", "(I)I"⟩ : MethodName) ∈ gt := gt_of (List.mem_of_getElem? (i := 686) (by decide +kernel)) (by decide +kernel)
theorem mw_687 : Cond.code (⟨"GrindingCircuitModel", "passes", "(I)I"⟩ : MethodName) prog_8_method_48_code (2 : Nat) (Option.some FieldType.int) ∈ gt := gt_of (List.mem_of_getElem? (i := 687) (by decide +kernel)) (by decide +kernel)
theorem mw_688 : Cond.methodLink "GrindingCircuitLaw" (106 : Nat) (⟨"GrindingCircuitModel", "produced", "(I)I"⟩ : MethodName) ∈ gt := gt_of (List.mem_of_getElem? (i := 688) (by decide +kernel)) (by decide +kernel)
theorem mw_689 : Cond.instanceMethod (⟨"GrindingCircuitModel", "produced", "(I)I"⟩ : MethodName) ∈ gt := gt_of (List.mem_of_getElem? (i := 689) (by decide +kernel)) (by decide +kernel)
theorem mw_690 : Cond.selects "GrindingCircuitModel" (⟨"GrindingCircuitModel", "produced", "(I)I"⟩ : MethodName) (⟨"GrindingCircuitModel", "produced", "(I)I"⟩ : MethodName) ∈ gt := gt_of (List.mem_of_getElem? (i := 690) (by decide +kernel)) (by decide +kernel)
theorem mw_691 : Cond.code (⟨"GrindingCircuitModel", "produced", "(I)I"⟩ : MethodName) prog_8_method_49_code (2 : Nat) (Option.some FieldType.int) ∈ gt := gt_of (List.mem_of_getElem? (i := 691) (by decide +kernel)) (by decide +kernel)
theorem mw_692 : Cond.methodLink "GrindingCircuitLaw" (110 : Nat) (⟨"GrindingCircuitModel", "total", "(I)I"⟩ : MethodName) ∈ gt := gt_of (List.mem_of_getElem? (i := 692) (by decide +kernel)) (by decide +kernel)
theorem mw_693 : Cond.instanceMethod (⟨"GrindingCircuitModel", "total", "(I)I"⟩ : MethodName) ∈ gt := gt_of (List.mem_of_getElem? (i := 693) (by decide +kernel)) (by decide +kernel)
theorem mw_694 : Cond.selects "GrindingCircuitModel" (⟨"GrindingCircuitModel", "total", "(I)I"⟩ : MethodName) (⟨"GrindingCircuitModel", "total", "(I)I"⟩ : MethodName) ∈ gt := gt_of (List.mem_of_getElem? (i := 694) (by decide +kernel)) (by decide +kernel)
theorem mw_695 : Cond.code (⟨"GrindingCircuitModel", "total", "(I)I"⟩ : MethodName) prog_8_method_50_code (2 : Nat) (Option.some FieldType.int) ∈ gt := gt_of (List.mem_of_getElem? (i := 695) (by decide +kernel)) (by decide +kernel)
theorem mw_696 : Cond.methodLink "GrindingCircuitLaw" (114 : Nat) (⟨"GrindingCircuitModel", "save", "(I)I"⟩ : MethodName) ∈ gt := gt_of (List.mem_of_getElem? (i := 696) (by decide +kernel)) (by decide +kernel)
theorem mw_697 : Cond.instanceMethod (⟨"GrindingCircuitModel", "save", "(I)I"⟩ : MethodName) ∈ gt := gt_of (List.mem_of_getElem? (i := 697) (by decide +kernel)) (by decide +kernel)
theorem mw_698 : Cond.selects "GrindingCircuitModel" (⟨"GrindingCircuitModel", "save", "(I)I"⟩ : MethodName) (⟨"GrindingCircuitModel", "save", "(I)I"⟩ : MethodName) ∈ gt := gt_of (List.mem_of_getElem? (i := 698) (by decide +kernel)) (by decide +kernel)
theorem mw_699 : Cond.code (⟨"GrindingCircuitModel", "save", "(I)I"⟩ : MethodName) prog_8_method_51_code (3 : Nat) (Option.some FieldType.int) ∈ gt := gt_of (List.mem_of_getElem? (i := 699) (by decide +kernel)) (by decide +kernel)
theorem mw_700 : Cond.methodLink "GrindingCircuitLaw" (118 : Nat) (⟨"GrindingCircuitModel", "restore", "(I)I"⟩ : MethodName) ∈ gt := gt_of (List.mem_of_getElem? (i := 700) (by decide +kernel)) (by decide +kernel)
theorem mw_701 : Cond.instanceMethod (⟨"GrindingCircuitModel", "restore", "(I)I"⟩ : MethodName) ∈ gt := gt_of (List.mem_of_getElem? (i := 701) (by decide +kernel)) (by decide +kernel)
theorem mw_702 : Cond.selects "GrindingCircuitModel" (⟨"GrindingCircuitModel", "restore", "(I)I"⟩ : MethodName) (⟨"GrindingCircuitModel", "restore", "(I)I"⟩ : MethodName) ∈ gt := gt_of (List.mem_of_getElem? (i := 702) (by decide +kernel)) (by decide +kernel)
theorem mw_703 : Cond.code (⟨"GrindingCircuitModel", "restore", "(I)I"⟩ : MethodName) prog_8_method_52_code (3 : Nat) (Option.some FieldType.int) ∈ gt := gt_of (List.mem_of_getElem? (i := 703) (by decide +kernel)) (by decide +kernel)
theorem ms_0 : Cond.selects "GrindingCircuit$SteadyState" ⟨"GrindingCircuit$SteadyState", "solveSize", "(LGrindingCircuit$Settings;II)V"⟩ ⟨"GrindingCircuit$SteadyState", "solveSize", "(LGrindingCircuit$Settings;II)V"⟩ ∈ gt := gt_sel (List.mem_of_getElem? (i := 0) (by decide +kernel)) (by decide +kernel)
theorem ms_1 : Cond.selects "GrindingCircuit$Simulation" ⟨"GrindingCircuit$Simulation", "firstOfBin", "(I)I"⟩ ⟨"GrindingCircuit$Simulation", "firstOfBin", "(I)I"⟩ ∈ gt := gt_sel (List.mem_of_getElem? (i := 1) (by decide +kernel)) (by decide +kernel)
theorem ms_2 : Cond.selects "GrindingCircuit$Lot" ⟨"GrindingCircuit$Lot", "coarserBy", "(LGrindingCircuit$Lot;)I"⟩ ⟨"GrindingCircuit$Lot", "coarserBy", "(LGrindingCircuit$Lot;)I"⟩ ∈ gt := gt_sel (List.mem_of_getElem? (i := 2) (by decide +kernel)) (by decide +kernel)
theorem ms_3 : Cond.selects "GrindingCircuit$Simulation" ⟨"GrindingCircuit$Simulation", "nextEvent", "()I"⟩ ⟨"GrindingCircuit$Simulation", "nextEvent", "()I"⟩ ∈ gt := gt_sel (List.mem_of_getElem? (i := 3) (by decide +kernel)) (by decide +kernel)
theorem ms_4 : Cond.selects "GrindingCircuit$Simulation" ⟨"GrindingCircuit$Simulation", "finishIfDue", "(LGrindingCircuit$Settings;)V"⟩ ⟨"GrindingCircuit$Simulation", "finishIfDue", "(LGrindingCircuit$Settings;)V"⟩ ∈ gt := gt_sel (List.mem_of_getElem? (i := 4) (by decide +kernel)) (by decide +kernel)
theorem ms_5 : Cond.selects "GrindingCircuit$Simulation" ⟨"GrindingCircuit$Simulation", "takePlannedLots", "()V"⟩ ⟨"GrindingCircuit$Simulation", "takePlannedLots", "()V"⟩ ∈ gt := gt_sel (List.mem_of_getElem? (i := 5) (by decide +kernel)) (by decide +kernel)
theorem ms_6 : Cond.selects "GrindingCircuit$Simulation" ⟨"GrindingCircuit$Simulation", "countBefore", "(LGrindingCircuit$Lot;I)I"⟩ ⟨"GrindingCircuit$Simulation", "countBefore", "(LGrindingCircuit$Lot;I)I"⟩ ∈ gt := gt_sel (List.mem_of_getElem? (i := 6) (by decide +kernel)) (by decide +kernel)
theorem ms_7 : Cond.selects "GrindingCircuitModel" ⟨"GrindingCircuitModel", "shareOf", "(II)I"⟩ ⟨"GrindingCircuitModel", "shareOf", "(II)I"⟩ ∈ gt := gt_sel (List.mem_of_getElem? (i := 7) (by decide +kernel)) (by decide +kernel)
theorem ms_8 : Cond.selects "GrindingCircuitModel" ⟨"GrindingCircuitModel", "set", "(II)I"⟩ ⟨"GrindingCircuitModel", "set", "(II)I"⟩ ∈ gt := gt_sel (List.mem_of_getElem? (i := 8) (by decide +kernel)) (by decide +kernel)
theorem ms_9 : Cond.selects "GrindingCircuitModel" ⟨"GrindingCircuitModel", "wrongSteady", "(II)I"⟩ ⟨"GrindingCircuitModel", "wrongSteady", "(II)I"⟩ ∈ gt := gt_sel (List.mem_of_getElem? (i := 9) (by decide +kernel)) (by decide +kernel)
theorem ms_10 : Cond.selects "GrindingCircuitModel" ⟨"GrindingCircuitModel", "asSet", "()V"⟩ ⟨"GrindingCircuitModel", "asSet", "()V"⟩ ∈ gt := gt_sel (List.mem_of_getElem? (i := 10) (by decide +kernel)) (by decide +kernel)
theorem ms_11 : Cond.selects "GrindingCircuitModel" ⟨"GrindingCircuitModel", "layLoads", "()Z"⟩ ⟨"GrindingCircuitModel", "layLoads", "()Z"⟩ ∈ gt := gt_sel (List.mem_of_getElem? (i := 11) (by decide +kernel)) (by decide +kernel)
theorem ms_12 : Cond.selects "GrindingCircuitModel" ⟨"GrindingCircuitModel", "powerOf", "()J"⟩ ⟨"GrindingCircuitModel", "powerOf", "()J"⟩ ∈ gt := gt_sel (List.mem_of_getElem? (i := 12) (by decide +kernel)) (by decide +kernel)
theorem ms_13 : Cond.selects "GrindingCircuitModel" ⟨"GrindingCircuitModel", "asCut", "(I)V"⟩ ⟨"GrindingCircuitModel", "asCut", "(I)V"⟩ ∈ gt := gt_sel (List.mem_of_getElem? (i := 13) (by decide +kernel)) (by decide +kernel)
theorem ms_14 : Cond.selects "GrindingCircuitModel" ⟨"GrindingCircuitModel", "make", "(IIII)I"⟩ ⟨"GrindingCircuitModel", "make", "(IIII)I"⟩ ∈ gt := gt_sel (List.mem_of_getElem? (i := 14) (by decide +kernel)) (by decide +kernel)
theorem ms_15 : Cond.selects "GrindingCircuitModel" ⟨"GrindingCircuitModel", "comes", "(I)V"⟩ ⟨"GrindingCircuitModel", "comes", "(I)V"⟩ ∈ gt := gt_sel (List.mem_of_getElem? (i := 15) (by decide +kernel)) (by decide +kernel)
theorem ms_16 : Cond.selects "GrindingCircuitModel" ⟨"GrindingCircuitModel", "start", "()V"⟩ ⟨"GrindingCircuitModel", "start", "()V"⟩ ∈ gt := gt_sel (List.mem_of_getElem? (i := 16) (by decide +kernel)) (by decide +kernel)
theorem ms_17 : Cond.selects "GrindingCircuitModel" ⟨"GrindingCircuitModel", "inBin", "(I)I"⟩ ⟨"GrindingCircuitModel", "inBin", "(I)I"⟩ ∈ gt := gt_sel (List.mem_of_getElem? (i := 17) (by decide +kernel)) (by decide +kernel)
theorem ms_18 : Cond.selects "GrindingCircuitModel" ⟨"GrindingCircuitModel", "of", "(II)I"⟩ ⟨"GrindingCircuitModel", "of", "(II)I"⟩ ∈ gt := gt_sel (List.mem_of_getElem? (i := 18) (by decide +kernel)) (by decide +kernel)
theorem ms_19 : Cond.selects "GrindingCircuitModel" ⟨"GrindingCircuitModel", "place", "(I)I"⟩ ⟨"GrindingCircuitModel", "place", "(I)I"⟩ ∈ gt := gt_sel (List.mem_of_getElem? (i := 19) (by decide +kernel)) (by decide +kernel)
theorem ms_20 : Cond.selects "GrindingCircuitModel" ⟨"GrindingCircuitModel", "isAhead", "(II)Z"⟩ ⟨"GrindingCircuitModel", "isAhead", "(II)Z"⟩ ∈ gt := gt_sel (List.mem_of_getElem? (i := 20) (by decide +kernel)) (by decide +kernel)
theorem ms_21 : Cond.selects "GrindingCircuitModel" ⟨"GrindingCircuitModel", "ahead", "(II)I"⟩ ⟨"GrindingCircuitModel", "ahead", "(II)I"⟩ ∈ gt := gt_sel (List.mem_of_getElem? (i := 21) (by decide +kernel)) (by decide +kernel)
theorem ms_22 : Cond.selects "GrindingCircuitModel" ⟨"GrindingCircuitModel", "weight", "(I)I"⟩ ⟨"GrindingCircuitModel", "weight", "(I)I"⟩ ∈ gt := gt_sel (List.mem_of_getElem? (i := 22) (by decide +kernel)) (by decide +kernel)
theorem ms_23 : Cond.selects "GrindingCircuitModel" ⟨"GrindingCircuitModel", "minute", "()V"⟩ ⟨"GrindingCircuitModel", "minute", "()V"⟩ ∈ gt := gt_sel (List.mem_of_getElem? (i := 23) (by decide +kernel)) (by decide +kernel)
theorem ms_24 : Cond.selects "GrindingCircuitModel" ⟨"GrindingCircuitModel", "finish", "()V"⟩ ⟨"GrindingCircuitModel", "finish", "()V"⟩ ∈ gt := gt_sel (List.mem_of_getElem? (i := 24) (by decide +kernel)) (by decide +kernel)
theorem ms_25 : Cond.selects "GrindingCircuitModel" ⟨"GrindingCircuitModel", "isLot", "(I)Z"⟩ ⟨"GrindingCircuitModel", "isLot", "(I)Z"⟩ ∈ gt := gt_sel (List.mem_of_getElem? (i := 25) (by decide +kernel)) (by decide +kernel)
theorem inG0 : ∀ w ∈ u_ws RX0 TX0 5, w ∈ gt := fun w h => gt_of ((by decide +kernel : ∀ w ∈ u_ws RX0 TX0 5, w ∈ tables_1) w h) ((by decide +kernel : ∀ w ∈ u_ws RX0 TX0 5, goodWord w = true) w h)
theorem inG1 : ∀ w ∈ u_ws RX1 TX1 2, w ∈ gt := fun w h => gt_of ((by decide +kernel : ∀ w ∈ u_ws RX1 TX1 2, w ∈ tables_1) w h) ((by decide +kernel : ∀ w ∈ u_ws RX1 TX1 2, goodWord w = true) w h)
theorem inG2 : ∀ w ∈ u_ws RX2 TX2 6, w ∈ gt := fun w h => gt_of ((by decide +kernel : ∀ w ∈ u_ws RX2 TX2 6, w ∈ tables_1) w h) ((by decide +kernel : ∀ w ∈ u_ws RX2 TX2 6, goodWord w = true) w h)
theorem inG3 : ∀ w ∈ u_ws RX3 TX3 9, w ∈ gt := fun w h => gt_of ((by decide +kernel : ∀ w ∈ u_ws RX3 TX3 9, w ∈ tables_1) w h) ((by decide +kernel : ∀ w ∈ u_ws RX3 TX3 9, goodWord w = true) w h)
theorem inG4 : ∀ w ∈ u_ws RX4 TX4 4, w ∈ gt := fun w h => gt_of ((by decide +kernel : ∀ w ∈ u_ws RX4 TX4 4, w ∈ tables_1) w h) ((by decide +kernel : ∀ w ∈ u_ws RX4 TX4 4, goodWord w = true) w h)
theorem inG5 : ∀ w ∈ u_ws RX5 TX5 4, w ∈ gt := fun w h => gt_of ((by decide +kernel : ∀ w ∈ u_ws RX5 TX5 4, w ∈ tables_1) w h) ((by decide +kernel : ∀ w ∈ u_ws RX5 TX5 4, goodWord w = true) w h)
theorem inG6 : ∀ w ∈ u_ws RX6 TX6 7, w ∈ gt := fun w h => gt_of ((by decide +kernel : ∀ w ∈ u_ws RX6 TX6 7, w ∈ tables_1) w h) ((by decide +kernel : ∀ w ∈ u_ws RX6 TX6 7, goodWord w = true) w h)
