section
-- ===== PART A: goes FIRST, ahead of the names: the tables' words, and 'selects' of the private methods out of them =====
/-- a private method of a class that the tables say can be made, by its rows of tables_1 -/
def lw_okq (q : MethodName × Nat) : Prop := (q.1.cls ≠ "java/lang/invoke/MethodHandle" ∧ q.1.cls ≠ "java/lang/invoke/VarHandle") ∧ Cond.instantiable q.1.cls q.2 ∈ tables_1 ∧ Cond.privateMethod q.1 ∈ tables_1 ∧ Cond.instanceMethod q.1 ∈ tables_1
theorem lw_p0 : lw_okq (⟨"PatchBench$Planner", "findRuns", "(LPatchBench$Bytes;LPatchBench$Bytes;I)V"⟩, 11) := ⟨⟨by decide +kernel, by decide +kernel⟩, List.mem_of_getElem? (i := 56) (by decide +kernel), List.mem_of_getElem? (i := 337) (by decide +kernel), List.mem_of_getElem? (i := 338) (by decide +kernel)⟩
theorem lw_p1 : lw_okq (⟨"PatchBench$Planner", "chooseStep", "(II)V"⟩, 11) := ⟨⟨by decide +kernel, by decide +kernel⟩, List.mem_of_getElem? (i := 56) (by decide +kernel), List.mem_of_getElem? (i := 341) (by decide +kernel), List.mem_of_getElem? (i := 342) (by decide +kernel)⟩
theorem lw_p2 : lw_okq (⟨"PatchBench$Planner", "tryStep", "(IIIII)V"⟩, 11) := ⟨⟨by decide +kernel, by decide +kernel⟩, List.mem_of_getElem? (i := 56) (by decide +kernel), List.mem_of_getElem? (i := 347) (by decide +kernel), List.mem_of_getElem? (i := 348) (by decide +kernel)⟩
theorem lw_p3 : lw_okq (⟨"PatchBench$Trace", "addedFrom", "(I)I"⟩, 4) := ⟨⟨by decide +kernel, by decide +kernel⟩, List.mem_of_getElem? (i := 111) (by decide +kernel), List.mem_of_getElem? (i := 390) (by decide +kernel), List.mem_of_getElem? (i := 391) (by decide +kernel)⟩
theorem lw_p4 : lw_okq (⟨"PatchBench$Trace", "alikeFrom", "(I)I"⟩, 4) := ⟨⟨by decide +kernel, by decide +kernel⟩, List.mem_of_getElem? (i := 111) (by decide +kernel), List.mem_of_getElem? (i := 394) (by decide +kernel), List.mem_of_getElem? (i := 395) (by decide +kernel)⟩
theorem lw_p5 : lw_okq (⟨"PatchBench$Trace", "comesTooLate", "(III)Z"⟩, 4) := ⟨⟨by decide +kernel, by decide +kernel⟩, List.mem_of_getElem? (i := 111) (by decide +kernel), List.mem_of_getElem? (i := 411) (by decide +kernel), List.mem_of_getElem? (i := 412) (by decide +kernel)⟩
theorem lw_p6 : lw_okq (⟨"PatchBench$Device", "endUpdate", "()V"⟩, 11) := ⟨⟨by decide +kernel, by decide +kernel⟩, List.mem_of_getElem? (i := 166) (by decide +kernel), List.mem_of_getElem? (i := 425) (by decide +kernel), List.mem_of_getElem? (i := 426) (by decide +kernel)⟩
theorem lw_p7 : lw_okq (⟨"PatchBench$Device", "allWrites", "()I"⟩, 11) := ⟨⟨by decide +kernel, by decide +kernel⟩, List.mem_of_getElem? (i := 166) (by decide +kernel), List.mem_of_getElem? (i := 456) (by decide +kernel), List.mem_of_getElem? (i := 457) (by decide +kernel)⟩
theorem lw_p8 : lw_okq (⟨"PatchBench$Device", "makeNextWrite", "()V"⟩, 11) := ⟨⟨by decide +kernel, by decide +kernel⟩, List.mem_of_getElem? (i := 166) (by decide +kernel), List.mem_of_getElem? (i := 468) (by decide +kernel), List.mem_of_getElem? (i := 469) (by decide +kernel)⟩
theorem lw_p9 : lw_okq (⟨"PatchBench$Device", "writeNewByte", "(I)V"⟩, 11) := ⟨⟨by decide +kernel, by decide +kernel⟩, List.mem_of_getElem? (i := 166) (by decide +kernel), List.mem_of_getElem? (i := 472) (by decide +kernel), List.mem_of_getElem? (i := 473) (by decide +kernel)⟩
theorem lw_p10 : lw_okq (⟨"PatchBench$Device", "oldByte", "(I)I"⟩, 11) := ⟨⟨by decide +kernel, by decide +kernel⟩, List.mem_of_getElem? (i := 166) (by decide +kernel), List.mem_of_getElem? (i := 476) (by decide +kernel), List.mem_of_getElem? (i := 477) (by decide +kernel)⟩
theorem lw_p11 : lw_okq (⟨"PatchBench$Fleet", "chooseOfSize", "(I)V"⟩, 8) := ⟨⟨by decide +kernel, by decide +kernel⟩, List.mem_of_getElem? (i := 212) (by decide +kernel), List.mem_of_getElem? (i := 557) (by decide +kernel), List.mem_of_getElem? (i := 558) (by decide +kernel)⟩
theorem lw_p12 : lw_okq (⟨"PatchBench$Fleet", "consider", "(I)V"⟩, 8) := ⟨⟨by decide +kernel, by decide +kernel⟩, List.mem_of_getElem? (i := 212) (by decide +kernel), List.mem_of_getElem? (i := 561) (by decide +kernel), List.mem_of_getElem? (i := 562) (by decide +kernel)⟩
theorem lw_p13 : lw_okq (⟨"PatchBenchModel", "four", "(I)V"⟩, 41) := ⟨⟨by decide +kernel, by decide +kernel⟩, List.mem_of_getElem? (i := 571) (by decide +kernel), List.mem_of_getElem? (i := 706) (by decide +kernel), List.mem_of_getElem? (i := 707) (by decide +kernel)⟩
theorem lw_p14 : lw_okq (⟨"PatchBenchModel", "isVersion", "(I)Z"⟩, 41) := ⟨⟨by decide +kernel, by decide +kernel⟩, List.mem_of_getElem? (i := 571) (by decide +kernel), List.mem_of_getElem? (i := 722) (by decide +kernel), List.mem_of_getElem? (i := 723) (by decide +kernel)⟩
theorem lw_p15 : lw_okq (⟨"PatchBenchModel", "byteOf", "(II)I"⟩, 41) := ⟨⟨by decide +kernel, by decide +kernel⟩, List.mem_of_getElem? (i := 571) (by decide +kernel), List.mem_of_getElem? (i := 726) (by decide +kernel), List.mem_of_getElem? (i := 727) (by decide +kernel)⟩
def lw_privs_1 : List (MethodName × Nat) := [(⟨"PatchBench$Planner", "findRuns", "(LPatchBench$Bytes;LPatchBench$Bytes;I)V"⟩, 11), (⟨"PatchBench$Planner", "chooseStep", "(II)V"⟩, 11), (⟨"PatchBench$Planner", "tryStep", "(IIIII)V"⟩, 11), (⟨"PatchBench$Trace", "addedFrom", "(I)I"⟩, 4), (⟨"PatchBench$Trace", "alikeFrom", "(I)I"⟩, 4), (⟨"PatchBench$Trace", "comesTooLate", "(III)Z"⟩, 4), (⟨"PatchBench$Device", "endUpdate", "()V"⟩, 11), (⟨"PatchBench$Device", "allWrites", "()I"⟩, 11), (⟨"PatchBench$Device", "makeNextWrite", "()V"⟩, 11), (⟨"PatchBench$Device", "writeNewByte", "(I)V"⟩, 11), (⟨"PatchBench$Device", "oldByte", "(I)I"⟩, 11), (⟨"PatchBench$Fleet", "chooseOfSize", "(I)V"⟩, 8), (⟨"PatchBench$Fleet", "consider", "(I)V"⟩, 8), (⟨"PatchBenchModel", "four", "(I)V"⟩, 41), (⟨"PatchBenchModel", "isVersion", "(I)Z"⟩, 41), (⟨"PatchBenchModel", "byteOf", "(II)I"⟩, 41)]
theorem lw_r1 : ∀ q ∈ lw_privs_1, lw_okq q := List.forall_mem_cons.mpr ⟨lw_p0, List.forall_mem_cons.mpr ⟨lw_p1, List.forall_mem_cons.mpr ⟨lw_p2, List.forall_mem_cons.mpr ⟨lw_p3, List.forall_mem_cons.mpr ⟨lw_p4, List.forall_mem_cons.mpr ⟨lw_p5, List.forall_mem_cons.mpr ⟨lw_p6, List.forall_mem_cons.mpr ⟨lw_p7, List.forall_mem_cons.mpr ⟨lw_p8, List.forall_mem_cons.mpr ⟨lw_p9, List.forall_mem_cons.mpr ⟨lw_p10, List.forall_mem_cons.mpr ⟨lw_p11, List.forall_mem_cons.mpr ⟨lw_p12, List.forall_mem_cons.mpr ⟨lw_p13, List.forall_mem_cons.mpr ⟨lw_p14, List.forall_mem_cons.mpr ⟨lw_p15, fun _ h => absurd h List.not_mem_nil⟩⟩⟩⟩⟩⟩⟩⟩⟩⟩⟩⟩⟩⟩⟩⟩
theorem lw_p16 : lw_okq (⟨"PatchBenchModel", "makes", "(II)V"⟩, 41) := ⟨⟨by decide +kernel, by decide +kernel⟩, List.mem_of_getElem? (i := 571) (by decide +kernel), List.mem_of_getElem? (i := 742) (by decide +kernel), List.mem_of_getElem? (i := 743) (by decide +kernel)⟩
theorem lw_p17 : lw_okq (⟨"PatchBenchModel", "apart", "(IIII)I"⟩, 41) := ⟨⟨by decide +kernel, by decide +kernel⟩, List.mem_of_getElem? (i := 571) (by decide +kernel), List.mem_of_getElem? (i := 746) (by decide +kernel), List.mem_of_getElem? (i := 747) (by decide +kernel)⟩
theorem lw_p18 : lw_okq (⟨"PatchBenchModel", "runAt", "(II)I"⟩, 41) := ⟨⟨by decide +kernel, by decide +kernel⟩, List.mem_of_getElem? (i := 571) (by decide +kernel), List.mem_of_getElem? (i := 750) (by decide +kernel), List.mem_of_getElem? (i := 751) (by decide +kernel)⟩
theorem lw_p19 : lw_okq (⟨"PatchBenchModel", "takes", "(IIII)Z"⟩, 41) := ⟨⟨by decide +kernel, by decide +kernel⟩, List.mem_of_getElem? (i := 571) (by decide +kernel), List.mem_of_getElem? (i := 756) (by decide +kernel), List.mem_of_getElem? (i := 757) (by decide +kernel)⟩
theorem lw_p20 : lw_okq (⟨"PatchBenchModel", "adds", "(II)V"⟩, 41) := ⟨⟨by decide +kernel, by decide +kernel⟩, List.mem_of_getElem? (i := 571) (by decide +kernel), List.mem_of_getElem? (i := 760) (by decide +kernel), List.mem_of_getElem? (i := 761) (by decide +kernel)⟩
theorem lw_p21 : lw_okq (⟨"PatchBenchModel", "keeps", "(IZ)I"⟩, 41) := ⟨⟨by decide +kernel, by decide +kernel⟩, List.mem_of_getElem? (i := 571) (by decide +kernel), List.mem_of_getElem? (i := 780) (by decide +kernel), List.mem_of_getElem? (i := 781) (by decide +kernel)⟩
theorem lw_p22 : lw_okq (⟨"PatchBenchModel", "checkOfArea", "()I"⟩, 41) := ⟨⟨by decide +kernel, by decide +kernel⟩, List.mem_of_getElem? (i := 571) (by decide +kernel), List.mem_of_getElem? (i := 792) (by decide +kernel), List.mem_of_getElem? (i := 793) (by decide +kernel)⟩
theorem lw_p23 : lw_okq (⟨"PatchBenchModel", "allWrites", "()I"⟩, 41) := ⟨⟨by decide +kernel, by decide +kernel⟩, List.mem_of_getElem? (i := 571) (by decide +kernel), List.mem_of_getElem? (i := 797) (by decide +kernel), List.mem_of_getElem? (i := 798) (by decide +kernel)⟩
theorem lw_p24 : lw_okq (⟨"PatchBenchModel", "writeOne", "(I)V"⟩, 41) := ⟨⟨by decide +kernel, by decide +kernel⟩, List.mem_of_getElem? (i := 571) (by decide +kernel), List.mem_of_getElem? (i := 805) (by decide +kernel), List.mem_of_getElem? (i := 806) (by decide +kernel)⟩
theorem lw_p25 : lw_okq (⟨"PatchBenchModel", "greatest", "()I"⟩, 41) := ⟨⟨by decide +kernel, by decide +kernel⟩, List.mem_of_getElem? (i := 571) (by decide +kernel), List.mem_of_getElem? (i := 836) (by decide +kernel), List.mem_of_getElem? (i := 837) (by decide +kernel)⟩
theorem lw_p26 : lw_okq (⟨"PatchBenchModel", "pairCosts", "()V"⟩, 41) := ⟨⟨by decide +kernel, by decide +kernel⟩, List.mem_of_getElem? (i := 571) (by decide +kernel), List.mem_of_getElem? (i := 840) (by decide +kernel), List.mem_of_getElem? (i := 841) (by decide +kernel)⟩
theorem lw_p27 : lw_okq (⟨"PatchBenchModel", "sentBy", "(I)I"⟩, 41) := ⟨⟨by decide +kernel, by decide +kernel⟩, List.mem_of_getElem? (i := 571) (by decide +kernel), List.mem_of_getElem? (i := 845) (by decide +kernel), List.mem_of_getElem? (i := 846) (by decide +kernel)⟩
def lw_privs_2 : List (MethodName × Nat) := [(⟨"PatchBenchModel", "makes", "(II)V"⟩, 41), (⟨"PatchBenchModel", "apart", "(IIII)I"⟩, 41), (⟨"PatchBenchModel", "runAt", "(II)I"⟩, 41), (⟨"PatchBenchModel", "takes", "(IIII)Z"⟩, 41), (⟨"PatchBenchModel", "adds", "(II)V"⟩, 41), (⟨"PatchBenchModel", "keeps", "(IZ)I"⟩, 41), (⟨"PatchBenchModel", "checkOfArea", "()I"⟩, 41), (⟨"PatchBenchModel", "allWrites", "()I"⟩, 41), (⟨"PatchBenchModel", "writeOne", "(I)V"⟩, 41), (⟨"PatchBenchModel", "greatest", "()I"⟩, 41), (⟨"PatchBenchModel", "pairCosts", "()V"⟩, 41), (⟨"PatchBenchModel", "sentBy", "(I)I"⟩, 41)]
theorem lw_r2 : ∀ q ∈ lw_privs_2, lw_okq q := List.forall_mem_cons.mpr ⟨lw_p16, List.forall_mem_cons.mpr ⟨lw_p17, List.forall_mem_cons.mpr ⟨lw_p18, List.forall_mem_cons.mpr ⟨lw_p19, List.forall_mem_cons.mpr ⟨lw_p20, List.forall_mem_cons.mpr ⟨lw_p21, List.forall_mem_cons.mpr ⟨lw_p22, List.forall_mem_cons.mpr ⟨lw_p23, List.forall_mem_cons.mpr ⟨lw_p24, List.forall_mem_cons.mpr ⟨lw_p25, List.forall_mem_cons.mpr ⟨lw_p26, List.forall_mem_cons.mpr ⟨lw_p27, fun _ h => absurd h List.not_mem_nil⟩⟩⟩⟩⟩⟩⟩⟩⟩⟩⟩⟩
def lw_privs : List (MethodName × Nat) := lw_privs_1 ++ (lw_privs_2)
def lw_tbl : List Cond := k2_sels lw_privs ++ tables_1
theorem lw_privs_ok : ∀ q ∈ lw_privs, lw_okq q := by
  show ∀ q ∈ lw_privs_1 ++ (lw_privs_2), lw_okq q
  exact List.forall_mem_append.mpr ⟨lw_r1, lw_r2⟩
end
section
def RX0 : String := "PatchBench$Bytes"
def TX0 : u_T := fun k => match k with
  | 0 => ("PatchBench$Bytes", "values", "[I", true)
  | _ => ("PatchBench$Bytes", "count", "I", false)
def tyX0 : Nat → FieldType := fun k => match k with
  | 0 => .array .int
  | _ => .int
abbrev wsX00 : List Cond := u_ws RX0 TX0 2
theorem nmX0 : ∀ a, a < 2 → ∀ b, b < 2 → a ≠ b → (TX0 a).2.1 ≠ (TX0 b).2.1 := by decide +kernel
theorem tyX0_ok : ∀ k, k < 2 → parseFieldDescriptor (TX0 k).2.2.1 = some (tyX0 k) := by decide +kernel
abbrev cX0_init : ByteArray := prog_2_method_1_code
def yX0_init : MethodName := ⟨RX0, "<init>", "(I)V"⟩
abbrev cX0_at : ByteArray := prog_2_method_2_code
def yX0_at : MethodName := ⟨RX0, "at", "(I)I"⟩
abbrev cX0_appendFour : ByteArray := prog_2_method_3_code
def yX0_appendFour : MethodName := ⟨RX0, "appendFour", "(I)V"⟩
abbrev cX0_takeFirst : ByteArray := prog_2_method_4_code
def yX0_takeFirst : MethodName := ⟨RX0, "takeFirst", "(LPatchBench$Bytes;I)V"⟩
abbrev cX0_checksum : ByteArray := prog_2_method_5_code
def yX0_checksum : MethodName := ⟨RX0, "checksum", "()I"⟩
def RX1 : String := "PatchBench$Device"
def TX1 : u_T := fun k => match k with
  | 0 => ("PatchBench$Device", "area", "LPatchBench$Bytes;", true)
  | 1 => ("PatchBench$Device", "plan", "LPatchBench$Trace;", true)
  | 2 => ("PatchBench$Device", "toKeep", "[I", true)
  | 3 => ("PatchBench$Device", "aside", "[I", true)
  | 4 => ("PatchBench$Device", "toKeepCount", "I", false)
  | 5 => ("PatchBench$Device", "way", "I", false)
  | 6 => ("PatchBench$Device", "nextWrite", "I", false)
  | 7 => ("PatchBench$Device", "mark", "I", false)
  | 8 => ("PatchBench$Device", "writesEver", "I", false)
  | 9 => ("PatchBench$Device", "begun", "Z", false)
  | _ => ("PatchBench$Device", "unpowered", "Z", false)
def tyX1 : Nat → FieldType := fun k => match k with
  | 0 => .object "PatchBench$Bytes"
  | 1 => .object "PatchBench$Trace"
  | 2 => .array .int
  | 3 => .array .int
  | 4 => .int
  | 5 => .int
  | 6 => .int
  | 7 => .int
  | 8 => .int
  | 9 => .boolean
  | _ => .boolean
abbrev wsX10 : List Cond := u_ws RX1 TX1 11
theorem nmX1 : ∀ a, a < 11 → ∀ b, b < 11 → a ≠ b → (TX1 a).2.1 ≠ (TX1 b).2.1 := by decide +kernel
theorem tyX1_ok : ∀ k, k < 11 → parseFieldDescriptor (TX1 k).2.2.1 = some (tyX1 k) := by decide +kernel
abbrev cX1_init : ByteArray := prog_3_method_1_code
def yX1_init : MethodName := ⟨RX1, "<init>", "()V"⟩
abbrev cX1_load : ByteArray := prog_3_method_2_code
def yX1_load : MethodName := ⟨RX1, "load", "(LPatchBench$Bytes;)V"⟩
abbrev cX1_fits : ByteArray := prog_3_method_3_code
def yX1_fits : MethodName := ⟨RX1, "fits", "(LPatchBench$Bytes;)Z"⟩
abbrev cX1_begin : ByteArray := prog_3_method_4_code
def yX1_begin : MethodName := ⟨RX1, "begin", "(LPatchBench$Trace;)V"⟩
abbrev cX1_endUpdate : ByteArray := prog_3_method_5_code
def yX1_endUpdate : MethodName := ⟨RX1, "endUpdate", "()V"⟩
abbrev cX1_allWrites : ByteArray := prog_3_method_6_code
def yX1_allWrites : MethodName := ⟨RX1, "allWrites", "()I"⟩
abbrev cX1_writesLeft : ByteArray := prog_3_method_7_code
def yX1_writesLeft : MethodName := ⟨RX1, "writesLeft", "()I"⟩
abbrev cX1_makeWrites : ByteArray := prog_3_method_8_code
def yX1_makeWrites : MethodName := ⟨RX1, "makeWrites", "(I)I"⟩
abbrev cX1_makeNextWrite : ByteArray := prog_3_method_9_code
def yX1_makeNextWrite : MethodName := ⟨RX1, "makeNextWrite", "()V"⟩
abbrev cX1_writeNewByte : ByteArray := prog_3_method_10_code
def yX1_writeNewByte : MethodName := ⟨RX1, "writeNewByte", "(I)V"⟩
abbrev cX1_oldByte : ByteArray := prog_3_method_11_code
def yX1_oldByte : MethodName := ⟨RX1, "oldByte", "(I)I"⟩
abbrev cX1_resume : ByteArray := prog_3_method_12_code
def yX1_resume : MethodName := ⟨RX1, "resume", "()V"⟩
abbrev cX1_tell : ByteArray := prog_3_method_13_code
def yX1_tell : MethodName := ⟨RX1, "tell", "(I)I"⟩
abbrev cX1_areaByte : ByteArray := prog_3_method_14_code
def yX1_areaByte : MethodName := ⟨RX1, "areaByte", "(I)I"⟩
def RX2 : String := "PatchBench$Fleet"
def TX2 : u_T := fun k => match k with
  | 0 => ("PatchBench$Fleet", "devices", "[I", true)
  | 1 => ("PatchBench$Fleet", "prices", "[I", true)
  | 2 => ("PatchBench$Fleet", "ways", "[I", true)
  | 3 => ("PatchBench$Fleet", "heldPairs", "I", false)
  | 4 => ("PatchBench$Fleet", "goal", "I", false)
  | 5 => ("PatchBench$Fleet", "wholePrice", "I", false)
  | 6 => ("PatchBench$Fleet", "leastSent", "I", false)
  | _ => ("PatchBench$Fleet", "bestPairs", "I", false)
def tyX2 : Nat → FieldType := fun k => match k with
  | 0 => .array .int
  | 1 => .array .int
  | 2 => .array .int
  | 3 => .int
  | 4 => .int
  | 5 => .int
  | 6 => .int
  | _ => .int
abbrev wsX20 : List Cond := u_ws RX2 TX2 8
theorem nmX2 : ∀ a, a < 8 → ∀ b, b < 8 → a ≠ b → (TX2 a).2.1 ≠ (TX2 b).2.1 := by decide +kernel
theorem tyX2_ok : ∀ k, k < 8 → parseFieldDescriptor (TX2 k).2.2.1 = some (tyX2 k) := by decide +kernel
abbrev cX2_init : ByteArray := prog_4_method_1_code
def yX2_init : MethodName := ⟨RX2, "<init>", "()V"⟩
abbrev cX2_setDevices : ByteArray := prog_4_method_2_code
def yX2_setDevices : MethodName := ⟨RX2, "setDevices", "(II)V"⟩
abbrev cX2_holdPair : ByteArray := prog_4_method_3_code
def yX2_holdPair : MethodName := ⟨RX2, "holdPair", "(IIZ)Z"⟩
abbrev cX2_bitOf : ByteArray := prog_4_method_4_code
def yX2_bitOf : MethodName := ⟨RX2, "bitOf", "(II)I"⟩
abbrev cX2_learnPrices : ByteArray := prog_4_method_5_code
def yX2_learnPrices : MethodName := ⟨RX2, "learnPrices", "(LPatchBench$Shelf;I)V"⟩
abbrev cX2_sentWith : ByteArray := prog_4_method_6_code
def yX2_sentWith : MethodName := ⟨RX2, "sentWith", "(I)I"⟩
abbrev cX2_choose : ByteArray := prog_4_method_7_code
def yX2_choose : MethodName := ⟨RX2, "choose", "(I)V"⟩
abbrev cX2_chooseOfSize : ByteArray := prog_4_method_8_code
def yX2_chooseOfSize : MethodName := ⟨RX2, "chooseOfSize", "(I)V"⟩
abbrev cX2_consider : ByteArray := prog_4_method_9_code
def yX2_consider : MethodName := ⟨RX2, "consider", "(I)V"⟩
def RX3 : String := "PatchBench$Patch"
def TX3 : u_T := fun k => match k with
  | 0 => ("PatchBench$Patch", "kinds", "[I", true)
  | 1 => ("PatchBench$Patch", "lengths", "[I", true)
  | 2 => ("PatchBench$Patch", "places", "[I", true)
  | 3 => ("PatchBench$Patch", "shifts", "[I", true)
  | 4 => ("PatchBench$Patch", "steps", "I", false)
  | _ => ("PatchBench$Patch", "price", "I", false)
def tyX3 : Nat → FieldType := fun k => match k with
  | 0 => .array .int
  | 1 => .array .int
  | 2 => .array .int
  | 3 => .array .int
  | 4 => .int
  | _ => .int
abbrev wsX30 : List Cond := u_ws RX3 TX3 6
theorem nmX3 : ∀ a, a < 6 → ∀ b, b < 6 → a ≠ b → (TX3 a).2.1 ≠ (TX3 b).2.1 := by decide +kernel
theorem tyX3_ok : ∀ k, k < 6 → parseFieldDescriptor (TX3 k).2.2.1 = some (tyX3 k) := by decide +kernel
abbrev cX3_init : ByteArray := prog_5_method_1_code
def yX3_init : MethodName := ⟨RX3, "<init>", "()V"⟩
abbrev cX3_clear : ByteArray := prog_5_method_2_code
def yX3_clear : MethodName := ⟨RX3, "clear", "()V"⟩
abbrev cX3_append : ByteArray := prog_5_method_3_code
def yX3_append : MethodName := ⟨RX3, "append", "(IIII)V"⟩
abbrev cX3_tell : ByteArray := prog_5_method_4_code
def yX3_tell : MethodName := ⟨RX3, "tell", "(II)I"⟩
def RX4 : String := "PatchBench$Planner"
def TX4 : u_T := fun k => match k with
  | 0 => ("PatchBench$Planner", "runs", "[I", true)
  | 1 => ("PatchBench$Planner", "gaps", "[I", true)
  | 2 => ("PatchBench$Planner", "least", "[I", true)
  | 3 => ("PatchBench$Planner", "kinds", "[I", true)
  | 4 => ("PatchBench$Planner", "lengths", "[I", true)
  | 5 => ("PatchBench$Planner", "places", "[I", true)
  | 6 => ("PatchBench$Planner", "shifts", "[I", true)
  | 7 => ("PatchBench$Planner", "copyRun", "I", false)
  | 8 => ("PatchBench$Planner", "copyFrom", "I", false)
  | 9 => ("PatchBench$Planner", "shiftRun", "I", false)
  | _ => ("PatchBench$Planner", "shiftFrom", "I", false)
def tyX4 : Nat → FieldType := fun k => match k with
  | 0 => .array .int
  | 1 => .array .int
  | 2 => .array .int
  | 3 => .array .int
  | 4 => .array .int
  | 5 => .array .int
  | 6 => .array .int
  | 7 => .int
  | 8 => .int
  | 9 => .int
  | _ => .int
abbrev wsX40 : List Cond := u_ws RX4 TX4 11
theorem nmX4 : ∀ a, a < 11 → ∀ b, b < 11 → a ≠ b → (TX4 a).2.1 ≠ (TX4 b).2.1 := by decide +kernel
theorem tyX4_ok : ∀ k, k < 11 → parseFieldDescriptor (TX4 k).2.2.1 = some (tyX4 k) := by decide +kernel
abbrev cX4_init : ByteArray := prog_6_method_1_code
def yX4_init : MethodName := ⟨RX4, "<init>", "()V"⟩
abbrev cX4_plan : ByteArray := prog_6_method_2_code
def yX4_plan : MethodName := ⟨RX4, "plan", "(LPatchBench$Bytes;LPatchBench$Bytes;LPatchBench$Patch;)V"⟩
abbrev cX4_findRuns : ByteArray := prog_6_method_3_code
def yX4_findRuns : MethodName := ⟨RX4, "findRuns", "(LPatchBench$Bytes;LPatchBench$Bytes;I)V"⟩
abbrev cX4_chooseStep : ByteArray := prog_6_method_4_code
def yX4_chooseStep : MethodName := ⟨RX4, "chooseStep", "(II)V"⟩
abbrev cX4_tryStep : ByteArray := prog_6_method_5_code
def yX4_tryStep : MethodName := ⟨RX4, "tryStep", "(IIIII)V"⟩
def RX5 : String := "PatchBench$Shelf"
def TX5 : u_T := fun k => match k with
  | 0 => ("PatchBench$Shelf", "versions", "[LPatchBench$Bytes;", true)
  | 1 => ("PatchBench$Shelf", "patches", "[LPatchBench$Patch;", true)
  | 2 => ("PatchBench$Shelf", "planned", "[Z", true)
  | _ => ("PatchBench$Shelf", "planner", "LPatchBench$Planner;", true)
def tyX5 : Nat → FieldType := fun k => match k with
  | 0 => .array (.object "PatchBench$Bytes")
  | 1 => .array (.object "PatchBench$Patch")
  | 2 => .array .boolean
  | _ => .object "PatchBench$Planner"
abbrev wsX50 : List Cond := u_ws RX5 TX5 4
theorem nmX5 : ∀ a, a < 4 → ∀ b, b < 4 → a ≠ b → (TX5 a).2.1 ≠ (TX5 b).2.1 := by decide +kernel
theorem tyX5_ok : ∀ k, k < 4 → parseFieldDescriptor (TX5 k).2.2.1 = some (tyX5 k) := by decide +kernel
abbrev cX5_init : ByteArray := prog_7_method_1_code
def yX5_init : MethodName := ⟨RX5, "<init>", "()V"⟩
abbrev cX5_has : ByteArray := prog_7_method_2_code
def yX5_has : MethodName := ⟨RX5, "has", "(I)Z"⟩
abbrev cX5_bytesOf : ByteArray := prog_7_method_3_code
def yX5_bytesOf : MethodName := ⟨RX5, "bytesOf", "(I)LPatchBench$Bytes;"⟩
abbrev cX5_greatest : ByteArray := prog_7_method_4_code
def yX5_greatest : MethodName := ⟨RX5, "greatest", "()I"⟩
abbrev cX5_replace : ByteArray := prog_7_method_5_code
def yX5_replace : MethodName := ⟨RX5, "replace", "(ILPatchBench$Bytes;I)V"⟩
abbrev cX5_patchOf : ByteArray := prog_7_method_6_code
def yX5_patchOf : MethodName := ⟨RX5, "patchOf", "(II)LPatchBench$Patch;"⟩
abbrev cX5_priceOf : ByteArray := prog_7_method_7_code
def yX5_priceOf : MethodName := ⟨RX5, "priceOf", "(II)I"⟩
def RX6 : String := "PatchBench$Trace"
def TX6 : u_T := fun k => match k with
  | 0 => ("PatchBench$Trace", "places", "[I", true)
  | 1 => ("PatchBench$Trace", "plus", "[I", true)
  | 2 => ("PatchBench$Trace", "kept", "[Z", true)
  | _ => ("PatchBench$Trace", "count", "I", false)
def tyX6 : Nat → FieldType := fun k => match k with
  | 0 => .array .int
  | 1 => .array .int
  | 2 => .array .boolean
  | _ => .int
abbrev wsX60 : List Cond := u_ws RX6 TX6 4
theorem nmX6 : ∀ a, a < 4 → ∀ b, b < 4 → a ≠ b → (TX6 a).2.1 ≠ (TX6 b).2.1 := by decide +kernel
theorem tyX6_ok : ∀ k, k < 4 → parseFieldDescriptor (TX6 k).2.2.1 = some (tyX6 k) := by decide +kernel
abbrev cX6_init : ByteArray := prog_8_method_1_code
def yX6_init : MethodName := ⟨RX6, "<init>", "()V"⟩
abbrev cX6_follow : ByteArray := prog_8_method_2_code
def yX6_follow : MethodName := ⟨RX6, "follow", "(LPatchBench$Patch;LPatchBench$Bytes;)V"⟩
abbrev cX6_take : ByteArray := prog_8_method_3_code
def yX6_take : MethodName := ⟨RX6, "take", "(LPatchBench$Trace;)V"⟩
abbrev cX6_reachThrough : ByteArray := prog_8_method_4_code
def yX6_reachThrough : MethodName := ⟨RX6, "reachThrough", "(LPatchBench$Trace;)V"⟩
abbrev cX6_gather : ByteArray := prog_8_method_5_code
def yX6_gather : MethodName := ⟨RX6, "gather", "(LPatchBench$Patch;)V"⟩
abbrev cX6_addedFrom : ByteArray := prog_8_method_6_code
def yX6_addedFrom : MethodName := ⟨RX6, "addedFrom", "(I)I"⟩
abbrev cX6_alikeFrom : ByteArray := prog_8_method_7_code
def yX6_alikeFrom : MethodName := ⟨RX6, "alikeFrom", "(I)I"⟩
abbrev cX6_countKept : ByteArray := prog_8_method_8_code
def yX6_countKept : MethodName := ⟨RX6, "countKept", "(I)I"⟩
abbrev cX6_comesTooLate : ByteArray := prog_8_method_9_code
def yX6_comesTooLate : MethodName := ⟨RX6, "comesTooLate", "(III)Z"⟩
abbrev cX6_isKept : ByteArray := prog_8_method_10_code
def yX6_isKept : MethodName := ⟨RX6, "isKept", "(I)Z"⟩
def RX7 : String := "PatchBench"
def TX7 : u_T := fun k => match k with
  | 0 => ("PatchBench", "tape", "LPatchBench$Bytes;", true)
  | 1 => ("PatchBench", "shelf", "LPatchBench$Shelf;", true)
  | 2 => ("PatchBench", "trace", "LPatchBench$Trace;", true)
  | 3 => ("PatchBench", "earlierTrace", "LPatchBench$Trace;", true)
  | 4 => ("PatchBench", "meltedPatch", "LPatchBench$Patch;", true)
  | 5 => ("PatchBench", "theDevice", "LPatchBench$Device;", true)
  | _ => ("PatchBench", "theFleet", "LPatchBench$Fleet;", true)
def tyX7 : Nat → FieldType := fun k => match k with
  | 0 => .object "PatchBench$Bytes"
  | 1 => .object "PatchBench$Shelf"
  | 2 => .object "PatchBench$Trace"
  | 3 => .object "PatchBench$Trace"
  | 4 => .object "PatchBench$Patch"
  | 5 => .object "PatchBench$Device"
  | _ => .object "PatchBench$Fleet"
abbrev wsX70 : List Cond := u_ws RX7 TX7 7
theorem nmX7 : ∀ a, a < 7 → ∀ b, b < 7 → a ≠ b → (TX7 a).2.1 ≠ (TX7 b).2.1 := by decide +kernel
theorem tyX7_ok : ∀ k, k < 7 → parseFieldDescriptor (TX7 k).2.2.1 = some (tyX7 k) := by decide +kernel
abbrev cX7_init : ByteArray := prog_1_method_1_code
def yX7_init : MethodName := ⟨RX7, "<init>", "()V"⟩
abbrev cX7_feed : ByteArray := prog_1_method_2_code
def yX7_feed : MethodName := ⟨RX7, "feed", "(IIIII)I"⟩
abbrev cX7_version : ByteArray := prog_1_method_3_code
def yX7_version : MethodName := ⟨RX7, "version", "(II)I"⟩
abbrev cX7_told : ByteArray := prog_1_method_4_code
def yX7_told : MethodName := ⟨RX7, "told", "(II)I"⟩
abbrev cX7_check : ByteArray := prog_1_method_5_code
def yX7_check : MethodName := ⟨RX7, "check", "(I)I"⟩
abbrev cX7_cost : ByteArray := prog_1_method_6_code
def yX7_cost : MethodName := ⟨RX7, "cost", "(II)I"⟩
abbrev cX7_step : ByteArray := prog_1_method_7_code
def yX7_step : MethodName := ⟨RX7, "step", "(IIII)I"⟩
abbrev cX7_melt : ByteArray := prog_1_method_8_code
def yX7_melt : MethodName := ⟨RX7, "melt", "(III)I"⟩
abbrev cX7_melted : ByteArray := prog_1_method_9_code
def yX7_melted : MethodName := ⟨RX7, "melted", "(II)I"⟩
abbrev cX7_room : ByteArray := prog_1_method_10_code
def yX7_room : MethodName := ⟨RX7, "room", "(III)I"⟩
abbrev cX7_install : ByteArray := prog_1_method_11_code
def yX7_install : MethodName := ⟨RX7, "install", "(I)Z"⟩
abbrev cX7_update : ByteArray := prog_1_method_12_code
def yX7_update : MethodName := ⟨RX7, "update", "(II)I"⟩
abbrev cX7_write : ByteArray := prog_1_method_13_code
def yX7_write : MethodName := ⟨RX7, "write", "(I)I"⟩
abbrev cX7_cut : ByteArray := prog_1_method_14_code
def yX7_cut : MethodName := ⟨RX7, "cut", "()Z"⟩
abbrev cX7_on : ByteArray := prog_1_method_15_code
def yX7_on : MethodName := ⟨RX7, "on", "()I"⟩
abbrev cX7_device : ByteArray := prog_1_method_16_code
def yX7_device : MethodName := ⟨RX7, "device", "(I)I"⟩
abbrev cX7_fleet : ByteArray := prog_1_method_17_code
def yX7_fleet : MethodName := ⟨RX7, "fleet", "(II)Z"⟩
abbrev cX7_hold : ByteArray := prog_1_method_18_code
def yX7_hold : MethodName := ⟨RX7, "hold", "(IIZ)Z"⟩
abbrev cX7_sent : ByteArray := prog_1_method_19_code
def yX7_sent : MethodName := ⟨RX7, "sent", "()I"⟩
abbrev cX7_best : ByteArray := prog_1_method_20_code
def yX7_best : MethodName := ⟨RX7, "best", "(II)I"⟩
abbrev cX7_stepPrice : ByteArray := prog_1_method_21_code
def yX7_stepPrice : MethodName := ⟨RX7, "stepPrice", "(II)I"⟩
def RX8 : String := "PatchBenchModel"
def TX8 : u_T := fun k => match k with
  | 0 => ("PatchBenchModel", "tape", "[B", true)
  | 1 => ("PatchBenchModel", "taped", "I", false)
  | 2 => ("PatchBenchModel", "bytes", "[B", true)
  | 3 => ("PatchBenchModel", "size", "[I", true)
  | 4 => ("PatchBenchModel", "run", "[I", true)
  | 5 => ("PatchBenchModel", "least", "[I", true)
  | 6 => ("PatchBenchModel", "kind", "[I", true)
  | 7 => ("PatchBenchModel", "many", "[I", true)
  | 8 => ("PatchBenchModel", "place", "[I", true)
  | 9 => ("PatchBenchModel", "shift", "[I", true)
  | 10 => ("PatchBenchModel", "steps", "I", false)
  | 11 => ("PatchBenchModel", "costs", "I", false)
  | 12 => ("PatchBenchModel", "source", "[I", true)
  | 13 => ("PatchBenchModel", "by", "[I", true)
  | 14 => ("PatchBenchModel", "middle", "[I", true)
  | 15 => ("PatchBenchModel", "middleBy", "[I", true)
  | 16 => ("PatchBenchModel", "meltKind", "[I", true)
  | 17 => ("PatchBenchModel", "meltMany", "[I", true)
  | 18 => ("PatchBenchModel", "meltPlace", "[I", true)
  | 19 => ("PatchBenchModel", "meltShift", "[I", true)
  | 20 => ("PatchBenchModel", "meltSteps", "I", false)
  | 21 => ("PatchBenchModel", "isKept", "[Z", true)
  | 22 => ("PatchBenchModel", "area", "[B", true)
  | 23 => ("PatchBenchModel", "aside", "[B", true)
  | 24 => ("PatchBenchModel", "holds", "I", false)
  | 25 => ("PatchBenchModel", "writes", "I", false)
  | 26 => ("PatchBenchModel", "done", "I", false)
  | 27 => ("PatchBenchModel", "keepMany", "I", false)
  | 28 => ("PatchBenchModel", "news", "I", false)
  | 29 => ("PatchBenchModel", "isBegun", "Z", false)
  | 30 => ("PatchBenchModel", "isCut", "Z", false)
  | 31 => ("PatchBenchModel", "goesDown", "Z", false)
  | 32 => ("PatchBenchModel", "from", "[I", true)
  | 33 => ("PatchBenchModel", "shifted", "[I", true)
  | 34 => ("PatchBenchModel", "added", "[I", true)
  | 35 => ("PatchBenchModel", "kept", "[I", true)
  | 36 => ("PatchBenchModel", "lies", "[I", true)
  | 37 => ("PatchBenchModel", "devices", "[I", true)
  | 38 => ("PatchBenchModel", "isHeld", "[Z", true)
  | 39 => ("PatchBenchModel", "pairCost", "[I", true)
  | _ => ("PatchBenchModel", "way", "[I", true)
def tyX8 : Nat → FieldType := fun k => match k with
  | 0 => .array .byte
  | 1 => .int
  | 2 => .array .byte
  | 3 => .array .int
  | 4 => .array .int
  | 5 => .array .int
  | 6 => .array .int
  | 7 => .array .int
  | 8 => .array .int
  | 9 => .array .int
  | 10 => .int
  | 11 => .int
  | 12 => .array .int
  | 13 => .array .int
  | 14 => .array .int
  | 15 => .array .int
  | 16 => .array .int
  | 17 => .array .int
  | 18 => .array .int
  | 19 => .array .int
  | 20 => .int
  | 21 => .array .boolean
  | 22 => .array .byte
  | 23 => .array .byte
  | 24 => .int
  | 25 => .int
  | 26 => .int
  | 27 => .int
  | 28 => .int
  | 29 => .boolean
  | 30 => .boolean
  | 31 => .boolean
  | 32 => .array .int
  | 33 => .array .int
  | 34 => .array .int
  | 35 => .array .int
  | 36 => .array .int
  | 37 => .array .int
  | 38 => .array .boolean
  | 39 => .array .int
  | _ => .array .int
abbrev wsX80 : List Cond := u_ws RX8 TX8 41
theorem nmX8 : ∀ a, a < 41 → ∀ b, b < 41 → a ≠ b → (TX8 a).2.1 ≠ (TX8 b).2.1 := by decide +kernel
theorem tyX8_ok : ∀ k, k < 41 → parseFieldDescriptor (TX8 k).2.2.1 = some (tyX8 k) := by decide +kernel
abbrev cX8_init : ByteArray := prog_10_method_1_code
def yX8_init : MethodName := ⟨RX8, "<init>", "()V"⟩
abbrev cX8_isIn : ByteArray := prog_10_method_2_code
def yX8_isIn : MethodName := ⟨RX8, "isIn", "(III)Z"⟩
abbrev cX8_isVersion : ByteArray := prog_10_method_3_code
def yX8_isVersion : MethodName := ⟨RX8, "isVersion", "(I)Z"⟩
abbrev cX8_feed : ByteArray := prog_10_method_4_code
def yX8_feed : MethodName := ⟨RX8, "feed", "(IIIII)I"⟩
abbrev cX8_four : ByteArray := prog_10_method_5_code
def yX8_four : MethodName := ⟨RX8, "four", "(I)V"⟩
abbrev cX8_version : ByteArray := prog_10_method_6_code
def yX8_version : MethodName := ⟨RX8, "version", "(II)I"⟩
abbrev cX8_byteOf : ByteArray := prog_10_method_7_code
def yX8_byteOf : MethodName := ⟨RX8, "byteOf", "(II)I"⟩
abbrev cX8_told : ByteArray := prog_10_method_8_code
def yX8_told : MethodName := ⟨RX8, "told", "(II)I"⟩
abbrev cX8_next : ByteArray := prog_10_method_9_code
def yX8_next : MethodName := ⟨RX8, "next", "(II)I"⟩
abbrev cX8_check : ByteArray := prog_10_method_10_code
def yX8_check : MethodName := ⟨RX8, "check", "(I)I"⟩
abbrev cX8_apart : ByteArray := prog_10_method_11_code
def yX8_apart : MethodName := ⟨RX8, "apart", "(IIII)I"⟩
abbrev cX8_runAt : ByteArray := prog_10_method_12_code
def yX8_runAt : MethodName := ⟨RX8, "runAt", "(II)I"⟩
abbrev cX8_makes : ByteArray := prog_10_method_13_code
def yX8_makes : MethodName := ⟨RX8, "makes", "(II)V"⟩
abbrev cX8_takes : ByteArray := prog_10_method_14_code
def yX8_takes : MethodName := ⟨RX8, "takes", "(IIII)Z"⟩
abbrev cX8_adds : ByteArray := prog_10_method_15_code
def yX8_adds : MethodName := ⟨RX8, "adds", "(II)V"⟩
abbrev cX8_cost : ByteArray := prog_10_method_16_code
def yX8_cost : MethodName := ⟨RX8, "cost", "(II)I"⟩
abbrev cX8_step : ByteArray := prog_10_method_17_code
def yX8_step : MethodName := ⟨RX8, "step", "(IIII)I"⟩
abbrev cX8_melt : ByteArray := prog_10_method_18_code
def yX8_melt : MethodName := ⟨RX8, "melt", "(III)I"⟩
abbrev cX8_melted : ByteArray := prog_10_method_19_code
def yX8_melted : MethodName := ⟨RX8, "melted", "(II)I"⟩
abbrev cX8_keeps : ByteArray := prog_10_method_20_code
def yX8_keeps : MethodName := ⟨RX8, "keeps", "(IZ)I"⟩
abbrev cX8_room : ByteArray := prog_10_method_21_code
def yX8_room : MethodName := ⟨RX8, "room", "(III)I"⟩
abbrev cX8_install : ByteArray := prog_10_method_22_code
def yX8_install : MethodName := ⟨RX8, "install", "(I)Z"⟩
abbrev cX8_checkOfArea : ByteArray := prog_10_method_23_code
def yX8_checkOfArea : MethodName := ⟨RX8, "checkOfArea", "()I"⟩
abbrev cX8_allWrites : ByteArray := prog_10_method_24_code
def yX8_allWrites : MethodName := ⟨RX8, "allWrites", "()I"⟩
abbrev cX8_update : ByteArray := prog_10_method_25_code
def yX8_update : MethodName := ⟨RX8, "update", "(II)I"⟩
abbrev cX8_writeOne : ByteArray := prog_10_method_26_code
def yX8_writeOne : MethodName := ⟨RX8, "writeOne", "(I)V"⟩
abbrev cX8_write : ByteArray := prog_10_method_27_code
def yX8_write : MethodName := ⟨RX8, "write", "(I)I"⟩
abbrev cX8_cut : ByteArray := prog_10_method_28_code
def yX8_cut : MethodName := ⟨RX8, "cut", "()Z"⟩
abbrev cX8_on : ByteArray := prog_10_method_29_code
def yX8_on : MethodName := ⟨RX8, "on", "()I"⟩
abbrev cX8_device : ByteArray := prog_10_method_30_code
def yX8_device : MethodName := ⟨RX8, "device", "(I)I"⟩
abbrev cX8_fleet : ByteArray := prog_10_method_31_code
def yX8_fleet : MethodName := ⟨RX8, "fleet", "(II)Z"⟩
abbrev cX8_pair : ByteArray := prog_10_method_32_code
def yX8_pair : MethodName := ⟨RX8, "pair", "(II)I"⟩
abbrev cX8_hold : ByteArray := prog_10_method_33_code
def yX8_hold : MethodName := ⟨RX8, "hold", "(IIZ)Z"⟩
abbrev cX8_greatest : ByteArray := prog_10_method_34_code
def yX8_greatest : MethodName := ⟨RX8, "greatest", "()I"⟩
abbrev cX8_pairCosts : ByteArray := prog_10_method_35_code
def yX8_pairCosts : MethodName := ⟨RX8, "pairCosts", "()V"⟩
abbrev cX8_sentBy : ByteArray := prog_10_method_36_code
def yX8_sentBy : MethodName := ⟨RX8, "sentBy", "(I)I"⟩
abbrev cX8_sent : ByteArray := prog_10_method_37_code
def yX8_sent : MethodName := ⟨RX8, "sent", "()I"⟩
abbrev cX8_pairsIn : ByteArray := prog_10_method_38_code
def yX8_pairsIn : MethodName := ⟨RX8, "pairsIn", "(I)I"⟩
abbrev cX8_isLess : ByteArray := prog_10_method_39_code
def yX8_isLess : MethodName := ⟨RX8, "isLess", "(II)Z"⟩
abbrev cX8_best : ByteArray := prog_10_method_40_code
def yX8_best : MethodName := ⟨RX8, "best", "(II)I"⟩
def RJ6 : String := "java/lang/Integer"
def TJ6 : u_T := fun k => match k with
  | _ => ("", "", "", false)
def tyJ6 : Nat → FieldType := fun k => match k with
  | _ => .int
abbrev wsJ60 : List Cond := u_ws RJ6 TJ6 0
theorem nmJ6 : ∀ a, a < 0 → ∀ b, b < 0 → a ≠ b → (TJ6 a).2.1 ≠ (TJ6 b).2.1 := by decide +kernel
theorem tyJ6_ok : ∀ k, k < 0 → parseFieldDescriptor (TJ6 k).2.2.1 = some (tyJ6 k) := by decide +kernel
abbrev cJ6_bitCount_0f7a4 : ByteArray := prog_11_method_49_code
def yJ6_bitCount_0f7a4 : MethodName := ⟨RJ6, "bitCount", "(I)I"⟩
def RJ9 : String := "java/lang/Math"
def TJ9 : u_T := fun k => match k with
  | _ => ("", "", "", false)
def tyJ9 : Nat → FieldType := fun k => match k with
  | _ => .int
abbrev wsJ90 : List Cond := u_ws RJ9 TJ9 0
theorem nmJ9 : ∀ a, a < 0 → ∀ b, b < 0 → a ≠ b → (TJ9 a).2.1 ≠ (TJ9 b).2.1 := by decide +kernel
theorem tyJ9_ok : ∀ k, k < 0 → parseFieldDescriptor (TJ9 k).2.2.1 = some (tyJ9 k) := by decide +kernel
abbrev cJ9_max_7cf53 : ByteArray := prog_12_method_65_code
def yJ9_max_7cf53 : MethodName := ⟨RJ9, "max", "(II)I"⟩
abbrev cJ9_min_7cf53 : ByteArray := prog_12_method_69_code
def yJ9_min_7cf53 : MethodName := ⟨RJ9, "min", "(II)I"⟩
def RJ10 : String := "java/lang/System"
def TJ10 : u_T := fun k => match k with
  | _ => ("", "", "", false)
def tyJ10 : Nat → FieldType := fun k => match k with
  | _ => .int
abbrev wsJ100 : List Cond := u_ws RJ10 TJ10 0
theorem nmJ10 : ∀ a, a < 0 → ∀ b, b < 0 → a ≠ b → (TJ10 a).2.1 ≠ (TJ10 b).2.1 := by decide +kernel
theorem tyJ10_ok : ∀ k, k < 0 → parseFieldDescriptor (TJ10 k).2.2.1 = some (tyJ10 k) := by decide +kernel
def RL : String := "PatchBenchLaw"
abbrev cL_law : ByteArray := code
def yL_law : MethodName := ⟨RL, "law", "([I)Z"⟩
theorem inX0 : ∀ w ∈ wsX00, w ∈ lw_tbl := by decide +kernel
theorem inX1 : ∀ w ∈ wsX10, w ∈ lw_tbl := by decide +kernel
theorem inX2 : ∀ w ∈ wsX20, w ∈ lw_tbl := by decide +kernel
theorem inX3 : ∀ w ∈ wsX30, w ∈ lw_tbl := by decide +kernel
theorem inX4 : ∀ w ∈ wsX40, w ∈ lw_tbl := by decide +kernel
theorem inX5 : ∀ w ∈ wsX50, w ∈ lw_tbl := by decide +kernel
theorem inX6 : ∀ w ∈ wsX60, w ∈ lw_tbl := by decide +kernel
theorem inX7 : ∀ w ∈ wsX70, w ∈ lw_tbl := by decide +kernel
theorem inX8 : ∀ w ∈ wsX80, w ∈ lw_tbl := by decide +kernel
theorem inJ6 : ∀ w ∈ wsJ60, w ∈ lw_tbl := by decide +kernel
theorem inJ9 : ∀ w ∈ wsJ90, w ∈ lw_tbl := by decide +kernel
theorem inJ10 : ∀ w ∈ wsJ100, w ∈ lw_tbl := by decide +kernel
abbrev vwCl : List vw_C := [(RX0, TX0, 2), (RX1, TX1, 11), (RX2, TX2, 8), (RX3, TX3, 6), (RX4, TX4, 11), (RX5, TX5, 4), (RX6, TX6, 4), (RX7, TX7, 7), (RX8, TX8, 41)]
end
section
/-! A layer of mathematical integers over the machine's rows: a memory of typed cells (kinds T, lengths L, references P, numbers I), locals and stack of Ints and references. -/
abbrev PV : Type := Int ⊕ Option Nat
abbrev SY : Type := va_G × (Nat → ClassId) × Nat × (Nat → Nat) × (Nat → Nat) × (Nat → Nat → Int)
abbrev yD (Y : SY) : va_G := Y.1
abbrev yC (Y : SY) : Nat → ClassId := Y.2.1
abbrev yB (Y : SY) : Nat := Y.2.2.1
abbrev ySp (Y : SY) : Nat → Nat := Y.2.2.2.1
abbrev yL (Y : SY) : Nat → Nat := Y.2.2.2.2.1
abbrev yI (Y : SY) : Nat → Nat → Int := Y.2.2.2.2.2
def ad (Y : SY) (k : Nat) : Nat := if k < 3 then ySp Y k else yB Y + (k - 3)
theorem ad_hi (Y : SY) {k : Nat} (h : 3 ≤ k) : ad Y k = yB Y + (k - 3) := if_neg (by omega)
def eV (Y : SY) (v : PV) : Value := match v with
  | .inl z => .int (Int32.ofInt z)
  | .inr none => .null
  | .inr (some k) => .ref (ad Y k)
def rg (z : Int) : Prop := -2147483648 ≤ z ∧ z < 2147483648
def vg (v : PV) : Prop := match v with
  | .inl z => rg z
  | .inr _ => True
def yA (Y : SY) : Nat → Prop := fun q => yB Y ≤ q
/-- which fields are references -/
def fR8 (i : Nat) : Bool := !(i == 1 || i == 10 || i == 11 || i == 20 || (decide (24 ≤ i) && decide (i ≤ 31)))
def fR (ci i : Nat) : Bool := match ci with
  | 0 => decide (i < 1)
  | 1 => decide (i < 4)
  | 2 => decide (i < 3)
  | 3 => decide (i < 4)
  | 4 => decide (i < 7)
  | 5 => true
  | 6 => decide (i < 3)
  | 7 => true
  | _ => fR8 i
def cN (ci : Nat) : Nat := match ci with
  | 0 => 2
  | 1 => 11
  | 2 => 8
  | 3 => 6
  | 4 => 11
  | 5 => 4
  | 6 => 4
  | 7 => 7
  | _ => 41
def fV (Y : SY) (P : Nat → Nat → Option Nat) (I : Nat → Nat → Int) (ci k i : Nat) : Value := if fR ci i then va_rf ((P k i).map (ad Y)) else .int (Int32.ofInt (I k i))
def cE (Y : SY) (T L : Nat → Nat) (P : Nat → Nat → Option Nat) (I : Nat → Nat → Int) (k : Nat) : va_E :=
  if T k < 9 then .inr (T k, (List.range (cN (T k))).map (fV Y P I (T k) k))
  else if T k < 13 then .inl (yC Y (T k), L k, .inl (fun j => Int32.ofInt (I k j)))
  else .inl (yC Y (T k), L k, .inr (.inr (.inr (.inr (fun j => (P k j).map (ad Y))))))
/-- the heap holds the memory -/
def HR (Y : SY) (T L : Nat → Nat) (P : Nat → Nat → Option Nat) (I : Nat → Nat → Int) (hn : Nat) (H : Heap) : Prop :=
  H.size = yB Y + hn ∧ (∀ k, 3 ≤ k → k < 3 + hn → va_at (yD Y) vwCl (ad Y k, cE Y T L P I k) H) ∧ (∀ k, 3 + hn ≤ k → T k = 99) ∧ (∀ k, 3 ≤ k → T k ≠ 15) ∧ (∀ k i, rg (I k i)) ∧ ∀ k, k < 3 → T k = 15 ∧ L k = yL Y k ∧ ∀ i, I k i = yI Y k i
def aTy (t : Nat) : FieldType := match t with
  | 10 => .int
  | 11 => .byte
  | 12 => .boolean
  | 13 => .object RX0
  | _ => .object RX3
def mov (w : Cond) : Bool := match w with
  | .fieldLinkNest _ _ _ _ _ _ => true
  | .methodLinkNest _ _ _ _ => true
  | .arrayOver (.object _) => true
  | w => goodWord w
/-- what is known of the tables, the statics, the script -/
def KK (Y : SY) (U : State) : Prop :=
  va_K (yD Y) vwCl [(yC Y 10, .int), (yC Y 11, .byte), (yC Y 12, .boolean), (yC Y 13, .object RX0), (yC Y 14, .object RX3)] U ∧ (∀ (a : Array Value) (w : Cond), w ∈ lw_tbl → mov w = true → w.before a U = true) ∧ yB Y ≤ U.heap.size ∧
  (∀ k, k < 3 → va_T .int (ySp Y k) (yL Y k) (fun j => .int (Int32.ofInt (yI Y k j))) (yA Y) U U.heap) ∧ (∀ k, k < 3 → yL Y k < 2147483648) ∧ (∀ k i, k < 3 → rg (yI Y k i)) ∧
  va_Z "PatchBench" "PAIR_FROM" "[I" (.ref (ySp Y 1)) (yA Y) U U.heap ∧ va_Z "PatchBench" "PAIR_TO" "[I" (.ref (ySp Y 2)) (yA Y) U U.heap
theorem mov_warm {w : Cond} (h : mov w = true) {s U : State} (hW : s.WarmedH U.vm) {a a' : Array Value} (hb : w.before a s = true) : w.before a' U = true := by
  cases w with
  | fieldLinkNest x1 x2 x3 x4 x5 x6 => exact va_Nw.use rfl (va_Nw.warmF hW (va_Nw.of rfl hb))
  | methodLinkNest x1 x2 x3 x4 => exact va_Nw.use rfl (va_Nw.warmM hW (va_Nw.of rfl hb))
  | arrayOver t =>
    cases t with
    | object C => exact va_AO.use (va_AO.moved hW.alike (va_AO.of hb))
    | _ => exact word_at hW (good_of_word h) hb
  | _ => exact word_at hW (good_of_word h) hb
theorem KK.warm {Y : SY} {s U : State} (h : KK Y s) (hW : s.WarmedH U.vm) (hz : yB Y ≤ U.heap.size) (hq : ∀ q, q < s.heap.size → ¬ yA Y q → U.heap[q]? = s.heap[q]?) : KK Y U := by
  obtain ⟨h1, h2, h3, h4, h5, h6, h7, h8⟩ := h
  exact ⟨va_K.moved hW.alike h1, fun a w hw hm => mov_warm hm hW (h2 #[] w hw hm), hz, fun k hk => ((h4 k hk).kept hq).moved hW.alike, h5, h6, (h7.kept hq).moved hW.alike, (h8.kept hq).moved hW.alike⟩
/-- the context of a method's body -/
abbrev Cx : Type := Program × Launch × Env × Room × State × MethodId × Array Value × List Frame × Method × Code
abbrev xp (X : Cx) : Program := X.1
abbrev xl (X : Cx) : Launch := X.2.1
abbrev xe (X : Cx) : Env := X.2.2.1
abbrev xR (X : Cx) : Room := X.2.2.2.1
abbrev xs (X : Cx) : State := X.2.2.2.2.1
abbrev xm (X : Cx) : MethodId := X.2.2.2.2.2.1
abbrev xa (X : Cx) : Array Value := X.2.2.2.2.2.2.1
abbrev xb (X : Cx) : List Frame := X.2.2.2.2.2.2.2.1
abbrev xh (X : Cx) : Method := X.2.2.2.2.2.2.2.2.1
abbrev xc (X : Cx) : Code := X.2.2.2.2.2.2.2.2.2
def pl (Y : SY) (ls : List (Option PV)) : List (Nat × Value) := ls.zipIdx.filterMap (fun q => q.1.map (fun v => (q.2, eV Y v)))
theorem pl_mem {Y : SY} {ls : List (Option PV)} {i : Nat} {x : Value} : (i, x) ∈ pl Y ls ↔ ∃ v, ls[i]? = some (some v) ∧ x = eV Y v := by
  unfold pl
  rw [List.mem_filterMap]
  constructor
  · rintro ⟨⟨o, j⟩, h1, h2⟩
    rw [List.mem_zipIdx_iff_getElem?] at h1
    cases o with
    | none => simp at h2
    | some v =>
      simp at h2
      obtain ⟨rfl, rfl⟩ := h2
      exact ⟨v, h1, rfl⟩
  · rintro ⟨v, h1, rfl⟩
    exact ⟨(some v, i), List.mem_zipIdx_iff_getElem?.mpr h1, rfl⟩
def LH (Y : SY) (la : Array Slot) (nL : Nat) (ls : List (Option PV)) : Prop := lv_has la nL (pl Y ls) ∧ ∀ (i : Nat) (v : PV), ls[i]? = some (some v) → vg v
theorem LH.get {Y : SY} {la : Array Slot} {nL : Nat} {ls : List (Option PV)} (h : LH Y la nL ls) {i : Nat} {v : PV} (hi : ls[i]? = some (some v)) : la[i]? = some (.val (eV Y v)) := h.1.2.2 (i, eV Y v) (pl_mem.mpr ⟨v, hi, rfl⟩)
theorem eV_cat (Y : SY) (v : PV) : (eV Y v).category = 1 := by
  cases v with
  | inl z => rfl
  | inr o => cases o <;> rfl
theorem LH.set {Y : SY} {la la' : Array Slot} {nL : Nat} {ls : List (Option PV)} (h : LH Y la nL ls) {i : Nat} {v : PV} (hv : vg v) (h' : lv_has la' nL ((i, eV Y v) :: (pl Y ls).filter (fun q => !(q.1 == i) && !(q.1 + 1 == i && q.2.category == 2)))) : LH Y la' nL (ls.set i (some v)) := by
  refine ⟨⟨h'.1, h'.2.1, fun q hq => ?_⟩, fun j w hj => ?_⟩
  · obtain ⟨j, x⟩ := q
    obtain ⟨w, hw, rfl⟩ := pl_mem.mp hq
    refine h'.2.2 (j, eV Y w) ?_
    by_cases hji : i = j
    · subst hji
      rw [List.getElem?_set_self' ] at hw
      cases hls : ls[i]? with
      | none => rw [hls] at hw; simp at hw
      | some o =>
        rw [hls] at hw
        simp at hw
        subst hw
        exact List.mem_cons_self
    · rw [List.getElem?_set_ne hji] at hw
      refine List.mem_cons_of_mem _ (List.mem_filter.mpr ⟨pl_mem.mpr ⟨w, hw, rfl⟩, ?_⟩)
      have e1 : (j == i) = false := by simp; omega
      have e2 : ((eV Y w).category == 2) = false := by rw [eV_cat]; rfl
      simp only [e1, e2, Bool.and_false, Bool.not_false, Bool.and_self]
  · by_cases hji : i = j
    · subst hji
      rw [List.getElem?_set_self' ] at hj
      cases hls : ls[i]? with
      | none => rw [hls] at hj; simp at hj
      | some o =>
        rw [hls] at hj
        simp at hj
        subst hj
        exact hv
    · rw [List.getElem?_set_ne hji] at hj
      exact h.2 j w hj
/-- from here, with these locals, this stack, this memory, the machine comes to Q -/
def RR (X : Cx) (Y : SY) (Q : State → Prop) (cells slots pc : Nat) (ls : List (Option PV)) (st : List PV) (T L : Nat → Nat) (P : Nat → Nat → Option Nat) (I : Nat → Nat → Int) (hn : Nat) : Prop :=
  ∀ (H : Heap) (locs : List Loc) (la : Array Slot), HR Y T L P I hn H → va_S (yA Y) (xs X).heap H locs → LH Y la (xc X).maxLocals ls → (∀ v ∈ st, vg v) →
    W (xp X) (xl X) (xe X) (xR X) (xs X) (xm X) (xa X) (xb X) (xh X) (xc X) H locs cells slots Q (F0 (xm X) pc la (st.map (eV Y)))
/-- the context is that of a method with these bytes, of this class -/
def OK (X : Cx) (Y : SY) (cc : ByteArray) (own : String) (nL : Nat) (ret : Option FieldType) (R : Room) (nm : String) : Prop :=
  (xp X).tables.exec = Jvm.exec ∧ (xc X).code = cc ∧ (xc X).maxLocals = nL ∧ (xs X).vm.findClass own = some (xm X).cls ∧ KK Y (xs X) ∧ (xh X).sig.returnType = ret ∧ (xh X).locks = false ∧ xR X = R ∧ (xh X).name = nm
end
section
theorem oi_add (x y : Int) : Int32.ofInt x + Int32.ofInt y = Int32.ofInt (x + y) := (Int32.ofInt_add x y).symm
theorem oi_sub (x y : Int) : Int32.ofInt x - Int32.ofInt y = Int32.ofInt (x - y) := (Int32.ofInt_sub x y).symm
theorem oi_mul (x y : Int) : Int32.ofInt x * Int32.ofInt y = Int32.ofInt (x * y) := (Int32.ofInt_mul x y).symm
theorem oi_neg (x : Int) : - Int32.ofInt x = Int32.ofInt (-x) := (Int32.ofInt_neg x).symm
theorem oi_toInt {x : Int} (h : rg x) : (Int32.ofInt x).toInt = x := by
  obtain ⟨h1, h2⟩ := h
  exact Int32.toInt_ofInt_of_le (by omega) (by omega)
theorem oi_of (x : Int32) : Int32.ofInt x.toInt = x := Int32.ofInt_toInt x
theorem rg_of (x : Int32) : rg x.toInt := by
  have h1 := Int32.le_toInt x
  have h2 := Int32.toInt_lt x
  exact ⟨by omega, by omega⟩
theorem oi_lt {x y : Int} (hx : rg x) (hy : rg y) : Int32.ofInt x < Int32.ofInt y ↔ x < y := by rw [Int32.lt_iff_toInt_lt, oi_toInt hx, oi_toInt hy]
theorem oi_le {x y : Int} (hx : rg x) (hy : rg y) : Int32.ofInt x ≤ Int32.ofInt y ↔ x ≤ y := by rw [Int32.le_iff_toInt_le, oi_toInt hx, oi_toInt hy]
theorem oi_eq {x y : Int} (hx : rg x) (hy : rg y) : Int32.ofInt x = Int32.ofInt y ↔ x = y := by
  constructor
  · intro h
    have := congrArg Int32.toInt h
    rwa [oi_toInt hx, oi_toInt hy] at this
  · rintro rfl; rfl
theorem rg0 : rg 0 := ⟨by decide, by decide⟩
theorem oi_0 : Int32.ofInt 0 = 0 := rfl
theorem oi_cl {x : Int} (h : rg x) : (Int32.ofInt x).toNatClampNeg = x.toNat := by
  show (Int32.ofInt x).toInt.toNat = _
  rw [oi_toInt h]
theorem oi_in {x : Int} {n : Nat} (h : rg x) (h1 : 0 ≤ x) (h2 : x < n) : vp_in (Int32.ofInt x) n := by
  rw [vp_in_iff, oi_toInt h]
  exact ⟨h1, h2⟩
theorem vcons {v : PV} {st : List PV} (h : vg v) (hs : ∀ w ∈ st, vg w) : ∀ w ∈ v :: st, vg w := fun w hw => (List.mem_cons.mp hw).elim (fun e => e ▸ h) (hs w)
theorem vtail {v : PV} {st : List PV} (hs : ∀ w ∈ v :: st, vg w) : ∀ w ∈ st, vg w := fun w hw => hs w (List.mem_cons_of_mem _ hw)
theorem vhead {v : PV} {st : List PV} (hs : ∀ w ∈ v :: st, vg w) : vg v := hs v List.mem_cons_self
theorem vh {z : Int} {st : List PV} (hs : ∀ w ∈ (.inl z : PV) :: st, vg w) : rg z := hs _ List.mem_cons_self
section ROWS
variable {X : Cx} {Y : SY} {Q : State → Prop} {cells slots pc : Nat} {ls : List (Option PV)} {st : List PV} {T L : Nat → Nat} {P : Nat → Nat → Option Nat} {I : Nat → Nat → Int} {hn : Nat} {cc : ByteArray} {own : String} {nL : Nat} {ret : Option FieldType} {R : Room} {nm : String}
theorem r_iconst (K : OK X Y cc own nL ret R nm) {n : Int} (hd : decode cc pc = .ok (.iconst n, 1)) (k : RR X Y Q cells slots (pc + 1) ls (.inl n :: st) T L P I hn) (hr : -2147483648 ≤ n ∧ n < 2147483648 := by omega) : RR X Y Q cells slots pc ls st T L P I hn :=
  fun H locs la hH hS hL hV => lv_iconst K.1 K.2.1 hd rfl (k H locs la hH hS hL (vcons hr hV))
theorem r_bipush (K : OK X Y cc own nL ret R nm) {n : Int} (hd : decode cc pc = .ok (.bipush n, 2)) (k : RR X Y Q cells slots (pc + 2) ls (.inl n :: st) T L P I hn) (hr : -2147483648 ≤ n ∧ n < 2147483648 := by omega) (hv : (Int8.ofInt n).toInt32 = Int32.ofInt n := by decide) : RR X Y Q cells slots pc ls st T L P I hn :=
  fun H locs la hH hS hL hV => lv_bipush K.1 K.2.1 hd hv (k H locs la hH hS hL (vcons hr hV))
theorem r_sipush (K : OK X Y cc own nL ret R nm) {n : Int} (hd : decode cc pc = .ok (.sipush n, 3)) (k : RR X Y Q cells slots (pc + 3) ls (.inl n :: st) T L P I hn) (hr : -2147483648 ≤ n ∧ n < 2147483648 := by omega) (hv : (Int16.ofInt n).toInt32 = Int32.ofInt n := by decide) : RR X Y Q cells slots pc ls st T L P I hn :=
  fun H locs la hH hS hL hV => lv_sipush K.1 K.2.1 hd hv (k H locs la hH hS hL (vcons hr hV))
theorem r_ldc (K : OK X Y cc own nL ret R nm) {i : Nat} {v : Int32} {n : Int} (hd : decode cc pc = .ok (.ldc i, 2)) (hc : Cond.constant own i v ∈ lw_tbl) (hv : v = Int32.ofInt n) (k : RR X Y Q cells slots (pc + 2) ls (.inl n :: st) T L P I hn) (hr : -2147483648 ≤ n ∧ n < 2147483648 := by omega) : RR X Y Q cells slots pc ls st T L P I hn := by
  subst hv
  exact fun H locs la hH hS hL hV => lv_ldc K.1 K.2.1 K.2.2.2.1 (K.2.2.2.2.1.2.1 _ _ hc rfl) hd (k H locs la hH hS hL (vcons hr hV))
theorem r_iload_n (K : OK X Y cc own nL ret R nm) {j : Fin 4} {z : Int} (hd : decode cc pc = .ok (.iload_n j, 1)) (hl : ls[(j : Nat)]? = some (some (.inl z))) (k : RR X Y Q cells slots (pc + 1) ls (.inl z :: st) T L P I hn) : RR X Y Q cells slots pc ls st T L P I hn :=
  fun H locs la hH hS hL hV => lv_iload_n K.1 K.2.1 hd rfl (hL.get hl) (k H locs la hH hS hL (vcons (hL.2 _ _ hl) hV))
theorem r_iload (K : OK X Y cc own nL ret R nm) {j : Nat} {z : Int} (hd : decode cc pc = .ok (.iload j, 2)) (hl : ls[j]? = some (some (.inl z))) (k : RR X Y Q cells slots (pc + 2) ls (.inl z :: st) T L P I hn) : RR X Y Q cells slots pc ls st T L P I hn :=
  fun H locs la hH hS hL hV => lv_iload K.1 K.2.1 hd (hL.get hl) (k H locs la hH hS hL (vcons (hL.2 _ _ hl) hV))
theorem r_aload_n (K : OK X Y cc own nL ret R nm) {j : Fin 4} {q : Nat} (hd : decode cc pc = .ok (.aload_n j, 1)) (hl : ls[(j : Nat)]? = some (some (.inr (some q)))) (k : RR X Y Q cells slots (pc + 1) ls (.inr (some q) :: st) T L P I hn) : RR X Y Q cells slots pc ls st T L P I hn :=
  fun H locs la hH hS hL hV => lv_aload_n K.1 K.2.1 hd rfl (hL.get hl) (k H locs la hH hS hL (vcons trivial hV))
theorem r_aload (K : OK X Y cc own nL ret R nm) {j q : Nat} (hd : decode cc pc = .ok (.aload j, 2)) (hl : ls[j]? = some (some (.inr (some q)))) (k : RR X Y Q cells slots (pc + 2) ls (.inr (some q) :: st) T L P I hn) : RR X Y Q cells slots pc ls st T L P I hn :=
  fun H locs la hH hS hL hV => lv_aload K.1 K.2.1 hd (hL.get hl) (k H locs la hH hS hL (vcons trivial hV))
theorem r_istore_n (K : OK X Y cc own nL ret R nm) {j : Fin 4} {z : Int} (hd : decode cc pc = .ok (.istore_n j, 1)) (hj : (j : Nat) < nL) (k : RR X Y Q cells slots (pc + 1) (ls.set (j : Nat) (some (.inl z))) st T L P I hn) : RR X Y Q cells slots pc ls (.inl z :: st) T L P I hn :=
  fun H locs la hH hS hL hV => lv_istore_n K.1 K.2.1 hd rfl hL.1 (by rw [K.2.2.1]; exact hj) rfl (fun la' h' => k H locs la' hH hS (hL.set (v := .inl z) (vh hV) h') (vtail hV))
theorem r_istore (K : OK X Y cc own nL ret R nm) {j : Nat} {z : Int} (hd : decode cc pc = .ok (.istore j, 2)) (hj : j < nL) (k : RR X Y Q cells slots (pc + 2) (ls.set j (some (.inl z))) st T L P I hn) : RR X Y Q cells slots pc ls (.inl z :: st) T L P I hn :=
  fun H locs la hH hS hL hV => lv_istore K.1 K.2.1 hd hL.1 (by rw [K.2.2.1]; exact hj) rfl (fun la' h' => k H locs la' hH hS (hL.set (v := .inl z) (vh hV) h') (vtail hV))
theorem r_astore_n (K : OK X Y cc own nL ret R nm) {j : Fin 4} {q : Nat} (hd : decode cc pc = .ok (.astore_n j, 1)) (hj : (j : Nat) < nL) (k : RR X Y Q cells slots (pc + 1) (ls.set (j : Nat) (some (.inr (some q)))) st T L P I hn) : RR X Y Q cells slots pc ls (.inr (some q) :: st) T L P I hn :=
  fun H locs la hH hS hL hV => lv_astore_n K.1 K.2.1 hd rfl hL.1 (by rw [K.2.2.1]; exact hj) rfl (fun la' h' => k H locs la' hH hS (hL.set (v := .inr (some q)) trivial h') (vtail hV))
theorem r_iinc (K : OK X Y cc own nL ret R nm) {j : Nat} {n z : Int} (hd : decode cc pc = .ok (.iinc j n, 3)) (hj : j < nL) (hl : ls[j]? = some (some (.inl z))) (k : RR X Y Q cells slots (pc + 3) (ls.set j (some (.inl (z + n)))) st T L P I hn) (hr : -2147483648 ≤ z + n ∧ z + n < 2147483648 := by omega) : RR X Y Q cells slots pc ls st T L P I hn :=
  fun H locs la hH hS hL hV => by
    obtain ⟨i, hi⟩ := List.getElem?_of_mem (pl_mem.mpr ⟨_, hl, rfl⟩ : (j, eV Y (.inl z)) ∈ pl Y ls)
    exact lv_iinc (k := i) K.1 K.2.1 hd hL.1 hi (oi_add z n) (by rw [K.2.2.1]; exact hj) rfl (fun la' h' => k H locs la' hH hS (hL.set (v := .inl (z + n)) hr h') hV)
theorem r_iadd (K : OK X Y cc own nL ret R nm) {x y : Int} (hd : decode cc pc = .ok (.iadd, 1)) (k : RR X Y Q cells slots (pc + 1) ls (.inl (x + y) :: st) T L P I hn) (hr : -2147483648 ≤ x + y ∧ x + y < 2147483648 := by omega) : RR X Y Q cells slots pc ls (.inl y :: .inl x :: st) T L P I hn :=
  fun H locs la hH hS hL hV => lv_iadd K.1 K.2.1 hd (by rw [oi_add]; exact k H locs la hH hS hL (vcons hr (vtail (vtail hV))))
theorem r_isub (K : OK X Y cc own nL ret R nm) {x y : Int} (hd : decode cc pc = .ok (.isub, 1)) (k : RR X Y Q cells slots (pc + 1) ls (.inl (x - y) :: st) T L P I hn) (hr : -2147483648 ≤ x - y ∧ x - y < 2147483648 := by omega) : RR X Y Q cells slots pc ls (.inl y :: .inl x :: st) T L P I hn :=
  fun H locs la hH hS hL hV => lv_isub K.1 K.2.1 hd (by rw [oi_sub]; exact k H locs la hH hS hL (vcons hr (vtail (vtail hV))))
theorem r_imul (K : OK X Y cc own nL ret R nm) {x y : Int} (hd : decode cc pc = .ok (.imul, 1)) (k : RR X Y Q cells slots (pc + 1) ls (.inl (x * y) :: st) T L P I hn) (hr : -2147483648 ≤ x * y ∧ x * y < 2147483648 := by omega) : RR X Y Q cells slots pc ls (.inl y :: .inl x :: st) T L P I hn :=
  fun H locs la hH hS hL hV => lv_imul K.1 K.2.1 hd (by rw [oi_mul]; exact k H locs la hH hS hL (vcons hr (vtail (vtail hV))))
theorem r_ineg (K : OK X Y cc own nL ret R nm) {x : Int} (hd : decode cc pc = .ok (.ineg, 1)) (k : RR X Y Q cells slots (pc + 1) ls (.inl (-x) :: st) T L P I hn) (hr : -2147483648 ≤ -x ∧ -x < 2147483648 := by omega) : RR X Y Q cells slots pc ls (.inl x :: st) T L P I hn :=
  fun H locs la hH hS hL hV => lv_ineg K.1 K.2.1 hd (by rw [oi_neg]; exact k H locs la hH hS hL (vcons hr (vtail hV)))
theorem oi_div {x y : Int} (hx : rg x) (hy : rg y) (h0 : 0 ≤ x) (h1 : 0 < y) : Int32.ofInt x / Int32.ofInt y = Int32.ofInt (x / y) := by
  have h2 : x / y ≤ x := Int.ediv_le_self _ h0
  have h3 : 0 ≤ x / y := Int.ediv_nonneg h0 (by omega)
  have hr : rg (x / y) := ⟨by omega, by have := hx.2; omega⟩
  apply Int32.toInt_inj.mp
  rw [Int32.toInt_div_of_ne_right _ _ (by
    intro h
    have := congrArg Int32.toInt h
    rw [oi_toInt hy] at this
    have e : (-1 : Int32).toInt = -1 := by decide
    omega), oi_toInt hx, oi_toInt hy, oi_toInt hr]
  exact Int.tdiv_eq_ediv_of_nonneg h0
theorem r_idiv (K : OK X Y cc own nL ret R nm) {x y : Int} (hd : decode cc pc = .ok (.idiv, 1)) (h0 : 0 ≤ x) (h1 : 0 < y) (k : RR X Y Q cells slots (pc + 1) ls (.inl (x / y) :: st) T L P I hn) : RR X Y Q cells slots pc ls (.inl y :: .inl x :: st) T L P I hn :=
  fun H locs la hH hS hL hV => by
    have hy := vh hV
    have hx := vh (vtail hV)
    have h2 : x / y ≤ x := Int.ediv_le_self _ h0
    have h3 : 0 ≤ x / y := Int.ediv_nonneg h0 (by omega)
    refine lv_idiv K.1 K.2.1 hd ?_ ?_
    · rw [← oi_0, oi_eq hy rg0]; omega
    · rw [oi_div hx hy h0 h1]
      exact k H locs la hH hS hL (vcons (show rg _ from ⟨by omega, by have := hx.2; omega⟩) (vtail (vtail hV)))
theorem r_irem (K : OK X Y cc own nL ret R nm) {x y : Int} (hd : decode cc pc = .ok (.irem, 1)) (h0 : 0 ≤ x) (h1 : 0 < y) (k : RR X Y Q cells slots (pc + 1) ls (.inl (x % y) :: st) T L P I hn) : RR X Y Q cells slots pc ls (.inl y :: .inl x :: st) T L P I hn :=
  fun H locs la hH hS hL hV => by
    have hy := vh hV
    have hx := vh (vtail hV)
    have h2 : x % y < y := Int.emod_lt_of_pos _ h1
    have h3 : 0 ≤ x % y := Int.emod_nonneg _ (by omega)
    refine lv_irem K.1 K.2.1 hd ?_ ?_
    · rw [← oi_0, oi_eq hy rg0]; omega
    · rw [oi_div hx hy h0 h1, oi_mul, oi_sub, show x - x / y * y = x % y by have := Int.emod_add_mul_ediv x y; rw [Int.mul_comm]; omega]
      exact k H locs la hH hS hL (vcons (show rg _ from ⟨by omega, by have := hy.2; omega⟩) (vtail (vtail hV)))
/-- the machine's own and, or, xor, shifts, as numbers -/
def zAnd (x y : Int) : Int := (Int32.ofInt x &&& Int32.ofInt y).toInt
def zOr (x y : Int) : Int := (Int32.ofInt x ||| Int32.ofInt y).toInt
def zXor (x y : Int) : Int := (Int32.ofInt x ^^^ Int32.ofInt y).toInt
def zShl (x y : Int) : Int := (Int32.ofInt x <<< (Int32.ofInt y &&& 31)).toInt
def zShr (x y : Int) : Int := (Int32.ofInt x >>> (Int32.ofInt y &&& 31)).toInt
def zUshr (x y : Int) : Int := ((Int32.ofInt x).toUInt32 >>> ((Int32.ofInt y).toUInt32 &&& Int32.toUInt32 31)).toInt32.toInt
def zByte (x : Int) : Int := (Int32.ofInt x).toInt8.toInt32.toInt
theorem r_iand (K : OK X Y cc own nL ret R nm) {x y : Int} (hd : decode cc pc = .ok (.iand, 1)) (k : RR X Y Q cells slots (pc + 1) ls (.inl (zAnd x y) :: st) T L P I hn) : RR X Y Q cells slots pc ls (.inl y :: .inl x :: st) T L P I hn :=
  fun H locs la hH hS hL hV => lv_iand K.1 K.2.1 hd (by rw [← oi_of (_ &&& _)]; exact k H locs la hH hS hL (vcons (rg_of _) (vtail (vtail hV))))
theorem r_ior (K : OK X Y cc own nL ret R nm) {x y : Int} (hd : decode cc pc = .ok (.ior, 1)) (k : RR X Y Q cells slots (pc + 1) ls (.inl (zOr x y) :: st) T L P I hn) : RR X Y Q cells slots pc ls (.inl y :: .inl x :: st) T L P I hn :=
  fun H locs la hH hS hL hV => lv_ior K.1 K.2.1 hd (by rw [← oi_of (_ ||| _)]; exact k H locs la hH hS hL (vcons (rg_of _) (vtail (vtail hV))))
theorem r_ixor (K : OK X Y cc own nL ret R nm) {x y : Int} (hd : decode cc pc = .ok (.ixor, 1)) (k : RR X Y Q cells slots (pc + 1) ls (.inl (zXor x y) :: st) T L P I hn) : RR X Y Q cells slots pc ls (.inl y :: .inl x :: st) T L P I hn :=
  fun H locs la hH hS hL hV => lv_ixor K.1 K.2.1 hd (by rw [← oi_of (_ ^^^ _)]; exact k H locs la hH hS hL (vcons (rg_of _) (vtail (vtail hV))))
theorem r_ishl (K : OK X Y cc own nL ret R nm) {x y : Int} (hd : decode cc pc = .ok (.ishl, 1)) (k : RR X Y Q cells slots (pc + 1) ls (.inl (zShl x y) :: st) T L P I hn) : RR X Y Q cells slots pc ls (.inl y :: .inl x :: st) T L P I hn :=
  fun H locs la hH hS hL hV => lv_ishl K.1 K.2.1 hd (by rw [← oi_of (_ <<< _)]; exact k H locs la hH hS hL (vcons (rg_of _) (vtail (vtail hV))))
theorem r_ishr (K : OK X Y cc own nL ret R nm) {x y : Int} (hd : decode cc pc = .ok (.ishr, 1)) (k : RR X Y Q cells slots (pc + 1) ls (.inl (zShr x y) :: st) T L P I hn) : RR X Y Q cells slots pc ls (.inl y :: .inl x :: st) T L P I hn :=
  fun H locs la hH hS hL hV => lv_ishr K.1 K.2.1 hd (by rw [← oi_of (_ >>> _)]; exact k H locs la hH hS hL (vcons (rg_of _) (vtail (vtail hV))))
theorem r_iushr (K : OK X Y cc own nL ret R nm) {x y : Int} (hd : decode cc pc = .ok (.iushr, 1)) (k : RR X Y Q cells slots (pc + 1) ls (.inl (zUshr x y) :: st) T L P I hn) : RR X Y Q cells slots pc ls (.inl y :: .inl x :: st) T L P I hn :=
  fun H locs la hH hS hL hV => lv_iushr K.1 K.2.1 hd (oi_of _).symm (k H locs la hH hS hL (vcons (rg_of _) (vtail (vtail hV))))
theorem r_i2b (K : OK X Y cc own nL ret R nm) {x : Int} (hd : decode cc pc = .ok (.i2b, 1)) (k : RR X Y Q cells slots (pc + 1) ls (.inl (zByte x) :: st) T L P I hn) : RR X Y Q cells slots pc ls (.inl x :: st) T L P I hn :=
  fun H locs la hH hS hL hV => lv_i2b K.1 K.2.1 hd (oi_of _).symm (k H locs la hH hS hL (vcons (rg_of _) (vtail hV)))
theorem r_dup (K : OK X Y cc own nL ret R nm) {v : PV} (hd : decode cc pc = .ok (.dup, 1)) (k : RR X Y Q cells slots (pc + 1) ls (v :: v :: st) T L P I hn) : RR X Y Q cells slots pc ls (v :: st) T L P I hn :=
  fun H locs la hH hS hL hV => lv_dup K.1 K.2.1 hd (eV_cat Y v) (k H locs la hH hS hL (vcons (vhead hV) hV))
theorem r_pop (K : OK X Y cc own nL ret R nm) {v : PV} (hd : decode cc pc = .ok (.pop, 1)) (k : RR X Y Q cells slots (pc + 1) ls st T L P I hn) : RR X Y Q cells slots pc ls (v :: st) T L P I hn :=
  fun H locs la hH hS hL hV => lv_pop K.1 K.2.1 hd (eV_cat Y v) (k H locs la hH hS hL (vtail hV))
theorem r_goto (K : OK X Y cc own nL ret R nm) {off : Int} (tgt : Nat) (hd : decode cc pc = .ok (.goto off, 3)) (ht : (pc : Int) + off = (tgt : Int)) (k : RR X Y Q cells slots tgt ls st T L P I hn) : RR X Y Q cells slots pc ls st T L P I hn :=
  fun H locs la hH hS hL hV => lv_goto K.1 K.2.1 hd ht (k H locs la hH hS hL hV)
theorem r_icmp_eq (K : OK X Y cc own nL ret R nm) {x y off : Int} (tgt : Nat) (hd : decode cc pc = .ok (.if_icmp .eq off, 3)) (ht : (pc : Int) + off = (tgt : Int)) (kt : x = y → RR X Y Q cells slots tgt ls st T L P I hn) (kf : x ≠ y → RR X Y Q cells slots (pc + 3) ls st T L P I hn) : RR X Y Q cells slots pc ls (.inl y :: .inl x :: st) T L P I hn :=
  fun H locs la hH hS hL hV => by
    have hy := vh hV
    have hx := vh (vtail hV)
    exact lv_icmp_eq K.1 K.2.1 hd ht (fun h => kt ((oi_eq hx hy).mp h) H locs la hH hS hL (vtail (vtail hV))) (fun h => kf (fun e => h ((oi_eq hx hy).mpr e)) H locs la hH hS hL (vtail (vtail hV)))
theorem r_if_eq (K : OK X Y cc own nL ret R nm) {x off : Int} (tgt : Nat) (hd : decode cc pc = .ok (.ifCond .eq off, 3)) (ht : (pc : Int) + off = (tgt : Int)) (kt : x = 0 → RR X Y Q cells slots tgt ls st T L P I hn) (kf : x ≠ 0 → RR X Y Q cells slots (pc + 3) ls st T L P I hn) : RR X Y Q cells slots pc ls (.inl x :: st) T L P I hn :=
  fun H locs la hH hS hL hV => by
    have hx := vh hV
    exact lv_if_eq K.1 K.2.1 hd ht (fun h => kt ((oi_eq hx rg0).mp h) H locs la hH hS hL (vtail hV)) (fun h => kf (fun e => h ((oi_eq hx rg0).mpr e)) H locs la hH hS hL (vtail hV))
theorem r_icmp_ne (K : OK X Y cc own nL ret R nm) {x y off : Int} (tgt : Nat) (hd : decode cc pc = .ok (.if_icmp .ne off, 3)) (ht : (pc : Int) + off = (tgt : Int)) (kt : x ≠ y → RR X Y Q cells slots tgt ls st T L P I hn) (kf : x = y → RR X Y Q cells slots (pc + 3) ls st T L P I hn) : RR X Y Q cells slots pc ls (.inl y :: .inl x :: st) T L P I hn :=
  fun H locs la hH hS hL hV => by
    have hy := vh hV
    have hx := vh (vtail hV)
    exact lv_icmp_ne K.1 K.2.1 hd ht (fun h => kt (fun e => h ((oi_eq hx hy).mpr e)) H locs la hH hS hL (vtail (vtail hV))) (fun h => kf ((oi_eq hx hy).mp h) H locs la hH hS hL (vtail (vtail hV)))
theorem r_if_ne (K : OK X Y cc own nL ret R nm) {x off : Int} (tgt : Nat) (hd : decode cc pc = .ok (.ifCond .ne off, 3)) (ht : (pc : Int) + off = (tgt : Int)) (kt : x ≠ 0 → RR X Y Q cells slots tgt ls st T L P I hn) (kf : x = 0 → RR X Y Q cells slots (pc + 3) ls st T L P I hn) : RR X Y Q cells slots pc ls (.inl x :: st) T L P I hn :=
  fun H locs la hH hS hL hV => by
    have hx := vh hV
    exact lv_if_ne K.1 K.2.1 hd ht (fun h => kt (fun e => h ((oi_eq hx rg0).mpr e)) H locs la hH hS hL (vtail hV)) (fun h => kf ((oi_eq hx rg0).mp h) H locs la hH hS hL (vtail hV))
theorem r_icmp_lt (K : OK X Y cc own nL ret R nm) {x y off : Int} (tgt : Nat) (hd : decode cc pc = .ok (.if_icmp .lt off, 3)) (ht : (pc : Int) + off = (tgt : Int)) (kt : x < y → RR X Y Q cells slots tgt ls st T L P I hn) (kf : y ≤ x → RR X Y Q cells slots (pc + 3) ls st T L P I hn) : RR X Y Q cells slots pc ls (.inl y :: .inl x :: st) T L P I hn :=
  fun H locs la hH hS hL hV => by
    have hy := vh hV
    have hx := vh (vtail hV)
    exact lv_icmp_lt K.1 K.2.1 hd ht (fun h => kt ((oi_lt hx hy).mp h) H locs la hH hS hL (vtail (vtail hV))) (fun h => kf (Int.not_lt.mp (fun e => h ((oi_lt hx hy).mpr e))) H locs la hH hS hL (vtail (vtail hV)))
theorem r_if_lt (K : OK X Y cc own nL ret R nm) {x off : Int} (tgt : Nat) (hd : decode cc pc = .ok (.ifCond .lt off, 3)) (ht : (pc : Int) + off = (tgt : Int)) (kt : x < 0 → RR X Y Q cells slots tgt ls st T L P I hn) (kf : 0 ≤ x → RR X Y Q cells slots (pc + 3) ls st T L P I hn) : RR X Y Q cells slots pc ls (.inl x :: st) T L P I hn :=
  fun H locs la hH hS hL hV => by
    have hx := vh hV
    exact lv_if_lt K.1 K.2.1 hd ht (fun h => kt ((oi_lt hx rg0).mp h) H locs la hH hS hL (vtail hV)) (fun h => kf (Int.not_lt.mp (fun e => h ((oi_lt hx rg0).mpr e))) H locs la hH hS hL (vtail hV))
theorem r_icmp_ge (K : OK X Y cc own nL ret R nm) {x y off : Int} (tgt : Nat) (hd : decode cc pc = .ok (.if_icmp .ge off, 3)) (ht : (pc : Int) + off = (tgt : Int)) (kt : y ≤ x → RR X Y Q cells slots tgt ls st T L P I hn) (kf : x < y → RR X Y Q cells slots (pc + 3) ls st T L P I hn) : RR X Y Q cells slots pc ls (.inl y :: .inl x :: st) T L P I hn :=
  fun H locs la hH hS hL hV => by
    have hy := vh hV
    have hx := vh (vtail hV)
    exact lv_icmp_ge K.1 K.2.1 hd ht (fun h => kt ((oi_le hy hx).mp h) H locs la hH hS hL (vtail (vtail hV))) (fun h => kf (Int.not_le.mp (fun e => h ((oi_le hy hx).mpr e))) H locs la hH hS hL (vtail (vtail hV)))
theorem r_if_ge (K : OK X Y cc own nL ret R nm) {x off : Int} (tgt : Nat) (hd : decode cc pc = .ok (.ifCond .ge off, 3)) (ht : (pc : Int) + off = (tgt : Int)) (kt : 0 ≤ x → RR X Y Q cells slots tgt ls st T L P I hn) (kf : x < 0 → RR X Y Q cells slots (pc + 3) ls st T L P I hn) : RR X Y Q cells slots pc ls (.inl x :: st) T L P I hn :=
  fun H locs la hH hS hL hV => by
    have hx := vh hV
    exact lv_if_ge K.1 K.2.1 hd ht (fun h => kt ((oi_le rg0 hx).mp h) H locs la hH hS hL (vtail hV)) (fun h => kf (Int.not_le.mp (fun e => h ((oi_le rg0 hx).mpr e))) H locs la hH hS hL (vtail hV))
theorem r_icmp_gt (K : OK X Y cc own nL ret R nm) {x y off : Int} (tgt : Nat) (hd : decode cc pc = .ok (.if_icmp .gt off, 3)) (ht : (pc : Int) + off = (tgt : Int)) (kt : y < x → RR X Y Q cells slots tgt ls st T L P I hn) (kf : x ≤ y → RR X Y Q cells slots (pc + 3) ls st T L P I hn) : RR X Y Q cells slots pc ls (.inl y :: .inl x :: st) T L P I hn :=
  fun H locs la hH hS hL hV => by
    have hy := vh hV
    have hx := vh (vtail hV)
    exact lv_icmp_gt K.1 K.2.1 hd ht (fun h => kt ((oi_lt hy hx).mp h) H locs la hH hS hL (vtail (vtail hV))) (fun h => kf (Int.not_lt.mp (fun e => h ((oi_lt hy hx).mpr e))) H locs la hH hS hL (vtail (vtail hV)))
theorem r_if_gt (K : OK X Y cc own nL ret R nm) {x off : Int} (tgt : Nat) (hd : decode cc pc = .ok (.ifCond .gt off, 3)) (ht : (pc : Int) + off = (tgt : Int)) (kt : 0 < x → RR X Y Q cells slots tgt ls st T L P I hn) (kf : x ≤ 0 → RR X Y Q cells slots (pc + 3) ls st T L P I hn) : RR X Y Q cells slots pc ls (.inl x :: st) T L P I hn :=
  fun H locs la hH hS hL hV => by
    have hx := vh hV
    exact lv_if_gt K.1 K.2.1 hd ht (fun h => kt ((oi_lt rg0 hx).mp h) H locs la hH hS hL (vtail hV)) (fun h => kf (Int.not_lt.mp (fun e => h ((oi_lt rg0 hx).mpr e))) H locs la hH hS hL (vtail hV))
theorem r_icmp_le (K : OK X Y cc own nL ret R nm) {x y off : Int} (tgt : Nat) (hd : decode cc pc = .ok (.if_icmp .le off, 3)) (ht : (pc : Int) + off = (tgt : Int)) (kt : x ≤ y → RR X Y Q cells slots tgt ls st T L P I hn) (kf : y < x → RR X Y Q cells slots (pc + 3) ls st T L P I hn) : RR X Y Q cells slots pc ls (.inl y :: .inl x :: st) T L P I hn :=
  fun H locs la hH hS hL hV => by
    have hy := vh hV
    have hx := vh (vtail hV)
    exact lv_icmp_le K.1 K.2.1 hd ht (fun h => kt ((oi_le hx hy).mp h) H locs la hH hS hL (vtail (vtail hV))) (fun h => kf (Int.not_le.mp (fun e => h ((oi_le hx hy).mpr e))) H locs la hH hS hL (vtail (vtail hV)))
theorem r_if_le (K : OK X Y cc own nL ret R nm) {x off : Int} (tgt : Nat) (hd : decode cc pc = .ok (.ifCond .le off, 3)) (ht : (pc : Int) + off = (tgt : Int)) (kt : x ≤ 0 → RR X Y Q cells slots tgt ls st T L P I hn) (kf : 0 < x → RR X Y Q cells slots (pc + 3) ls st T L P I hn) : RR X Y Q cells slots pc ls (.inl x :: st) T L P I hn :=
  fun H locs la hH hS hL hV => by
    have hx := vh hV
    exact lv_if_le K.1 K.2.1 hd ht (fun h => kt ((oi_le hx rg0).mp h) H locs la hH hS hL (vtail hV)) (fun h => kf (Int.not_le.mp (fun e => h ((oi_le hx rg0).mpr e))) H locs la hH hS hL (vtail hV))
end ROWS
end
section
def Rn (ci : Nat) : String := match ci with
  | 0 => RX0
  | 1 => RX1
  | 2 => RX2
  | 3 => RX3
  | 4 => RX4
  | 5 => RX5
  | 6 => RX6
  | 7 => RX7
  | _ => RX8
def Tn (ci : Nat) : u_T := match ci with
  | 0 => TX0
  | 1 => TX1
  | 2 => TX2
  | 3 => TX3
  | 4 => TX4
  | 5 => TX5
  | 6 => TX6
  | 7 => TX7
  | _ => TX8
def yn (ci : Nat) : Nat → FieldType := match ci with
  | 0 => tyX0
  | 1 => tyX1
  | 2 => tyX2
  | 3 => tyX3
  | 4 => tyX4
  | 5 => tyX5
  | 6 => tyX6
  | 7 => tyX7
  | _ => tyX8
theorem ci_9 {P : Nat → Prop} (h0 : P 0) (h1 : P 1) (h2 : P 2) (h3 : P 3) (h4 : P 4) (h5 : P 5) (h6 : P 6) (h7 : P 7) (h8 : P 8) {i : Nat} (hi : i < 9) : P i := by
  match i, hi with
  | 0, _ => exact h0
  | 1, _ => exact h1
  | 2, _ => exact h2
  | 3, _ => exact h3
  | 4, _ => exact h4
  | 5, _ => exact h5
  | 6, _ => exact h6
  | 7, _ => exact h7
  | 8, _ => exact h8
  | n + 9, h => exact absurd h (by omega)
abbrev tbl : List Cond := lw_tbl.filter mov
theorem cl_at {ci : Nat} (h : ci < 9) : vwCl[ci]? = some (Rn ci, Tn ci, cN ci) := ci_9 (P := fun ci => vwCl[ci]? = some (Rn ci, Tn ci, cN ci)) rfl rfl rfl rfl rfl rfl rfl rfl rfl h
theorem lay_mov (C : String) (T : u_T) (N : Nat) : ∀ w ∈ u_ws C T N, mov w = true := by
  intro w hw
  obtain ⟨k, -, rfl⟩ := List.mem_map.mp hw
  unfold u_lay
  split <;> rfl
theorem cl_in {ci : Nat} (h : ci < 9) : ∀ w ∈ u_ws (Rn ci) (Tn ci) (cN ci), w ∈ tbl := fun w hw =>
  List.mem_filter.mpr ⟨(ci_9 (P := fun ci => ∀ w ∈ u_ws (Rn ci) (Tn ci) (cN ci), w ∈ lw_tbl) inX0 inX1 inX2 inX3 inX4 inX5 inX6 inX7 inX8 h) w hw, lay_mov _ _ _ w hw⟩
theorem cl_ty {ci : Nat} (h : ci < 9) : ∀ k, k < cN ci → parseFieldDescriptor (Tn ci k).2.2.1 = some (yn ci k) :=
  ci_9 (P := fun ci => ∀ k, k < cN ci → parseFieldDescriptor (Tn ci k).2.2.1 = some (yn ci k)) tyX0_ok tyX1_ok tyX2_ok tyX3_ok tyX4_ok tyX5_ok tyX6_ok tyX7_ok tyX8_ok h
theorem cl_nm {ci : Nat} (h : ci < 9) : ∀ a, a < cN ci → ∀ b, b < cN ci → a ≠ b → (Tn ci a).2.1 ≠ (Tn ci b).2.1 :=
  ci_9 (P := fun ci => ∀ a, a < cN ci → ∀ b, b < cN ci → a ≠ b → (Tn ci a).2.1 ≠ (Tn ci b).2.1) nmX0 nmX1 nmX2 nmX3 nmX4 nmX5 nmX6 nmX7 nmX8 h
theorem KK.ts {Y : SY} {U : State} (h : KK Y U) (a : Array Value) : ∀ w ∈ tbl, w.before a U = true := fun w hw => h.2.1 a w (List.mem_filter.mp hw).1 (List.mem_filter.mp hw).2
/-- a field's link: own's entry idx is field fi of class ci, of its own class or of a nest mate's -/
def fL (own : String) (idx ci fi : Nat) : Prop := ci < 9 ∧ fi < cN ci ∧ (Cond.fieldLink own idx (Tn ci fi).1 (Tn ci fi).2.1 (Tn ci fi).2.2.1 ∈ lw_tbl ∨ Cond.fieldLinkNest own idx (Tn ci fi).1 (Tn ci fi).2.1 (Tn ci fi).2.2.1 "PatchBench" ∈ lw_tbl)
def mI (I : Nat → Nat → Int) (a i : Nat) (z : Int) : Nat → Nat → Int := fun b => if b = a then (fun j => if j = i then z else I a j) else I b
def mP (P : Nat → Nat → Option Nat) (a i : Nat) (z : Option Nat) : Nat → Nat → Option Nat := fun b => if b = a then (fun j => if j = i then z else P a j) else P b
theorem mI_eq {I : Nat → Nat → Int} {a i : Nat} {z : Int} : mI I a i z a i = z := by simp [mI]
theorem mI_ne {I : Nat → Nat → Int} {a i b : Nat} {z : Int} (h : b ≠ a) : mI I a i z b = I b := by simp [mI, h]
theorem mI_nj {I : Nat → Nat → Int} {a i j : Nat} {z : Int} (h : j ≠ i) : mI I a i z a j = I a j := by simp [mI, h]
theorem mI_row {I : Nat → Nat → Int} {a i j : Nat} {z : Int} : mI I a i z a j = if j = i then z else I a j := by simp [mI]
theorem mP_ne {I : Nat → Nat → Option Nat} {a i b : Nat} {z : Option Nat} (h : b ≠ a) : mP I a i z b = I b := by simp [mP, h]
theorem mP_row {I : Nat → Nat → Option Nat} {a i j : Nat} {z : Option Nat} : mP I a i z a j = if j = i then z else I a j := by simp [mP]
theorem mI_mI {I : Nat → Nat → Int} {a i : Nat} {z w : Int} : mI (mI I a i z) a i w = mI I a i w := by
  funext b j
  simp only [mI]
  split
  · by_cases hj : j = i <;> simp [hj]
  · rfl
section MEM
variable {Y : SY} {T L : Nat → Nat} {P P' : Nat → Nat → Option Nat} {I I' : Nat → Nat → Int} {hn : Nat} {H H' : Heap}
theorem HR.lt (h : HR Y T L P I hn H) {k : Nat} (hk : T k ≠ 99) : k < 3 + hn := by
  rcases Nat.lt_or_ge k (3 + hn) with q | q
  · exact q
  · exact absurd (h.2.2.1 k q) hk
theorem HR.ge (h : HR Y T L P I hn H) {k : Nat} (hk : T k ≠ 15) : 3 ≤ k := by
  rcases Nat.lt_or_ge k 3 with q | q
  · exact absurd (h.2.2.2.2.2 k q).1 hk
  · exact q
theorem HR.obj (h : HR Y T L P I hn H) {k ci : Nat} (hT : T k = ci) (hci : ci < 9) : va_at (yD Y) vwCl (ad Y k, .inr (ci, (List.range (cN ci)).map (fV Y P I ci k))) H := by
  have h1 := h.2.1 k (h.ge (by omega)) (h.lt (by omega))
  rw [cE, hT, if_pos hci] at h1
  exact h1
theorem HR.arr (h : HR Y T L P I hn H) {k t : Nat} (hT : T k = t) (h9 : 9 ≤ t) (h13 : t < 13) : H[ad Y k]? = some (vp_cell (yC Y t) (L k, .inl (fun j => Int32.ofInt (I k j)))) := by
  have h1 := h.2.1 k (h.ge (by omega)) (h.lt (by omega))
  rw [cE, hT, if_neg (by omega), if_pos h13] at h1
  exact h1
theorem HR.rar (h : HR Y T L P I hn H) {k t : Nat} (hT : T k = t) (h13 : 13 ≤ t) (h15 : t < 15) : H[ad Y k]? = some (vp_cell (yC Y t) (L k, .inr (.inr (.inr (.inr (fun j => (P k j).map (ad Y))))))) := by
  have h1 := h.2.1 k (h.ge (by omega)) (h.lt (by omega))
  rw [cE, hT, if_neg (by omega), if_neg (by omega)] at h1
  exact h1
theorem HR.upd (h : HR Y T L P I hn H) {k : Nat} (h3 : 3 ≤ k) (e2 : H'.size = H.size) (e3 : ∀ q, q ≠ ad Y k → H'[q]? = H[q]?) (hI : ∀ j, j ≠ k → I' j = I j) (hP : ∀ j, j ≠ k → P' j = P j) (hg : ∀ i, rg (I' k i)) (hc : va_at (yD Y) vwCl (ad Y k, cE Y T L P' I' k) H') : HR Y T L P' I' hn H' := by
  obtain ⟨a1, a2, a3, a4, a5, a6⟩ := h
  refine ⟨e2.trans a1, fun j hj hj2 => ?_, a3, a4, fun j i => ?_, fun j hj => ?_⟩
  · by_cases hjk : j = k
    · subst hjk; exact hc
    · have hne : ad Y j ≠ ad Y k := by rw [ad_hi Y hj, ad_hi Y h3]; omega
      have e : cE Y T L P' I' j = cE Y T L P I j := by
        have q1 : fV Y P' I' (T j) j = fV Y P I (T j) j := by funext i; simp only [fV, hI j hjk, hP j hjk]
        simp only [cE, q1, hI j hjk, hP j hjk]
      rw [e]
      exact (a2 j hj hj2).kept (e3 _ hne)
  · by_cases hjk : j = k
    · subst hjk; exact hg i
    · rw [hI j hjk]; exact a5 j i
  · have hjk : j ≠ k := by omega
    rw [hI j hjk]; exact a6 j hj
theorem HR.updI (h : HR Y T L P I hn H) {k i : Nat} {z : Int} (h3 : 3 ≤ k) (e2 : H'.size = H.size) (e3 : ∀ q, q ≠ ad Y k → H'[q]? = H[q]?) (hz : rg z) (hc : va_at (yD Y) vwCl (ad Y k, cE Y T L P (mI I k i z) k) H') : HR Y T L P (mI I k i z) hn H' := by
  refine h.upd h3 e2 e3 (fun j hj => mI_ne hj) (fun _ _ => rfl) (fun j => ?_) hc
  rw [mI_row]
  split
  · exact hz
  · exact h.2.2.2.2.1 k j
theorem HR.updP (h : HR Y T L P I hn H) {k i : Nat} {z : Option Nat} (h3 : 3 ≤ k) (e2 : H'.size = H.size) (e3 : ∀ q, q ≠ ad Y k → H'[q]? = H[q]?) (hc : va_at (yD Y) vwCl (ad Y k, cE Y T L (mP P k i z) I k) H') : HR Y T L (mP P k i z) I hn H' :=
  h.upd h3 e2 e3 (fun _ _ => rfl) (fun j hj => mP_ne hj) (fun j => h.2.2.2.2.1 k j) hc
/-- a new cell behind the others -/
theorem HR.new (h : HR Y T L P I hn H) {t n : Nat} (ht : t ≠ 15) (e2 : H'.size = H.size + 1) (e3 : ∀ q, q < H.size → H'[q]? = H[q]?) (hc : va_at (yD Y) vwCl (ad Y (3 + hn), cE Y (va_up T (3 + hn) t) (va_up L (3 + hn) n) (va_up P (3 + hn) (fun _ => none)) (va_up I (3 + hn) (fun _ => 0)) (3 + hn)) H') : HR Y (va_up T (3 + hn) t) (va_up L (3 + hn) n) (va_up P (3 + hn) (fun _ => none)) (va_up I (3 + hn) (fun _ => 0)) (hn + 1) H' := by
  obtain ⟨a1, a2, a3, a4, a5, a6⟩ := h
  refine ⟨by omega, fun j hj hj2 => ?_, fun j hj => ?_, fun j hj => ?_, fun j i => ?_, fun j hj => ?_⟩
  · by_cases hjk : j = 3 + hn
    · subst hjk; exact hc
    · have e : cE Y (va_up T (3 + hn) t) (va_up L (3 + hn) n) (va_up P (3 + hn) (fun _ => none)) (va_up I (3 + hn) (fun _ => 0)) j = cE Y T L P I j := by
        have q1 : ∀ ci, fV Y (va_up P (3 + hn) (fun _ => none)) (va_up I (3 + hn) (fun _ => 0)) ci j = fV Y P I ci j := by intro ci; funext i; simp only [fV, va_up, if_neg hjk]
        simp only [cE, q1, va_up, if_neg hjk]
      rw [e]
      have h4 := a2 j hj (by omega)
      exact h4.kept (e3 _ h4.lt)
  · rw [va_up, if_neg (by omega)]; exact a3 j (by omega)
  · rw [va_up]
    split
    · exact ht
    · exact a4 j hj
  · rw [va_up]
    split
    · exact rg0
    · exact a5 j i
  · have q : j ≠ 3 + hn := by omega
    simp only [va_up, if_neg q]
    exact a6 j hj
theorem va_P1 {D : va_G} {cl : List vw_C} {q : Nat × va_E} (h : va_at D cl q H) : va_P D cl [q] H := by
  intro k x hx
  cases k with
  | zero => cases hx; exact h
  | succ k => simp at hx
theorem fV_at {ci k fi : Nat} (hN : fi < cN ci) : ((List.range (cN ci)).map (fV Y P I ci k))[fi]? = some (fV Y P I ci k fi) := by
  rw [List.getElem?_map, List.getElem?_range hN]; rfl
theorem fV_set {f g : Nat → Value} {N fi : Nat} (hg : ∀ j, j ≠ fi → g j = f j) : ((List.range N).map f).set fi (g fi) = (List.range N).map g := by
  apply List.ext_getElem?
  intro j
  by_cases h : fi = j
  · subst h
    rw [List.getElem?_set_self']
    by_cases hl : fi < N
    · simp [hl]
    · simp [hl]
  · rw [List.getElem?_set_ne h, List.getElem?_map, List.getElem?_map]
    by_cases hl : j < N
    · rw [List.getElem?_range hl]; simp [hg j (Ne.symm h)]
    · simp [hl]
end MEM
end
section
section MROW
variable {X : Cx} {Y : SY} {Q : State → Prop} {cells slots pc : Nat} {ls : List (Option PV)} {st : List PV} {T L : Nat → Nat} {P : Nat → Nat → Option Nat} {I : Nat → Nat → Int} {hn : Nat} {cc : ByteArray} {own : String} {nL : Nat} {ret : Option FieldType} {R : Room} {nm : String}
theorem OK.w (K : OK X Y cc own nL ret R nm) {w : Cond} (h : w ∈ lw_tbl) (hm : mov w = true) {a : Array Value} : w.before a (xs X) = true := K.2.2.2.2.1.2.1 a w h hm
theorem r_getV (K : OK X Y cc own nL ret R nm) {k ci fi idx : Nat} (hd : decode cc pc = .ok (.getfield idx, 3)) (hl : fL own idx ci fi) (hT : T k = ci) (kk : ∀ (H : Heap) (locs : List Loc) (la : Array Slot), HR Y T L P I hn H → va_S (yA Y) (xs X).heap H locs → LH Y la (xc X).maxLocals ls → (∀ v ∈ st, vg v) → W (xp X) (xl X) (xe X) (xR X) (xs X) (xm X) (xa X) (xb X) (xh X) (xc X) H locs cells slots Q (F0 (xm X) (pc + 3) la (fV Y P I ci k fi :: st.map (eV Y)))) : RR X Y Q cells slots pc ls (.inr (some k) :: st) T L P I hn := by
  obtain ⟨hci, hN, hlk⟩ := hl
  intro H locs la hH hS hL hV
  rcases hlk with hlk | hlk
  · exact va_get (D := yD Y) (Ts := tbl) K.1 K.2.1 (K.2.2.2.2.1.ts _) (cl_in hci) K.2.2.2.1 K.2.2.2.2.1.1 (va_P1 (hH.obj hT hci)) 0 rfl (cl_at hci) fi hN (K.w hlk rfl) (fun _ h => h) (fV_at hN) hd (kk H locs la hH hS hL (vtail hV))
  · exact va_getN (D := yD Y) (Ts := tbl) K.1 K.2.1 (K.2.2.2.2.1.ts _) (cl_in hci) K.2.2.2.1 K.2.2.2.2.1.1 (va_P1 (hH.obj hT hci)) 0 rfl (cl_at hci) fi hN (K.w hlk rfl) (fun _ h => h) (fV_at hN) hd (kk H locs la hH hS hL (vtail hV))
theorem r_getI (K : OK X Y cc own nL ret R nm) {k ci fi idx : Nat} (hd : decode cc pc = .ok (.getfield idx, 3)) (hl : fL own idx ci fi) (hf : fR ci fi = false) (hT : T k = ci) (kk : RR X Y Q cells slots (pc + 3) ls (.inl (I k fi) :: st) T L P I hn) : RR X Y Q cells slots pc ls (.inr (some k) :: st) T L P I hn :=
  r_getV K hd hl hT (fun H locs la hH hS hL hV => by
    have e : fV Y P I ci k fi = eV Y (.inl (I k fi)) := by simp [fV, hf, eV]
    rw [e]
    exact kk H locs la hH hS hL (vcons (hH.2.2.2.2.1 k fi) hV))
theorem r_getR (K : OK X Y cc own nL ret R nm) {k ci fi idx : Nat} (hd : decode cc pc = .ok (.getfield idx, 3)) (hl : fL own idx ci fi) (hf : fR ci fi = true) (hT : T k = ci) {q : Nat} (hq : P k fi = some q) (kk : RR X Y Q cells slots (pc + 3) ls (.inr (some q) :: st) T L P I hn) : RR X Y Q cells slots pc ls (.inr (some k) :: st) T L P I hn :=
  r_getV K hd hl hT (fun H locs la hH hS hL hV => by
    have e : fV Y P I ci k fi = eV Y (.inr (some q)) := by simp [fV, hf, eV, hq, va_rf]
    rw [e]
    exact kk H locs la hH hS hL (vcons trivial hV))
/-- a field is written: any of its kinds -/
theorem putW {H : Heap} {locs : List Loc} {la : Array Slot} {rest : List Value} (K : OK X Y cc own nL ret R nm) {k ci fi idx : Nat} {v : Value} {fs : List Value} (hd : decode cc pc = .ok (.putfield idx, 3)) (hl : fL own idx ci fi) (hfin : (Tn ci fi).2.2.2 = false ∨ ((Tn ci fi).2.2.2 = true ∧ nm = "<init>" ∧ (Tn ci fi).1 = own ∧ Cond.fieldLink own idx (Tn ci fi).1 (Tn ci fi).2.1 (Tn ci fi).2.2.1 ∈ lw_tbl)) (hn' : narrow (yn ci fi) v = v) (hfit : fits (yn ci fi) v = true) (hA : yA Y (ad Y k)) (hS : va_S (yA Y) (xs X).heap H locs) (hat : va_at (yD Y) vwCl (ad Y k, .inr (ci, fs)) H) (hlen : fi < fs.length)
    (kk : ∀ (H' : Heap) (locs' : List Loc), va_at (yD Y) vwCl (ad Y k, .inr (ci, fs.set fi v)) H' → H'.size = H.size → (∀ q, q ≠ ad Y k → H'[q]? = H[q]?) → va_S (yA Y) (xs X).heap H' locs' → W (xp X) (xl X) (xe X) (xR X) (xs X) (xm X) (xa X) (xb X) (xh X) (xc X) H' locs' cells slots Q (F0 (xm X) (pc + 3) la rest)) :
    W (xp X) (xl X) (xe X) (xR X) (xs X) (xm X) (xa X) (xb X) (xh X) (xc X) H locs cells slots Q (F0 (xm X) pc la (v :: .ref (ad Y k) :: rest)) := by
  obtain ⟨hci, hN, hlk⟩ := hl
  have hts := K.2.2.2.2.1.ts (xa X)
  have hin := cl_in hci
  have hK := K.2.2.2.2.1.1
  have hc := cl_at hci
  have hap := va_apart (own := own) hts hin (yn ci) (cl_ty hci) (cl_nm hci) hK hc
  obtain ⟨r, h1, cell, q1, q2, q3, q4⟩ := hat
  have hr : r = (Rn ci, Tn ci, cN ci) := Option.some.inj (h1.symm.trans hc)
  subst hr
  obtain ⟨hSl, hfc, kC, hkC, hkind⟩ := hK.1 ci _ hc
  obtain ⟨cf, kf, ff, f, hi, hsl⟩ := hSl fi hN
  have hlay := hts _ (hin _ (u_in_lay hN))
  unfold u_lay at hlay
  have hst := (u_facts hfc hkC (u_lays hts hin hN) hi).1
  have fin : ∀ H' : Heap, H'[ad Y k]? = some (cell.setSlot f.slot v) → H'.size = H.size → (∀ q, q ≠ ad Y k → H'[q]? = H[q]?) → W (xp X) (xl X) (xe X) (xR X) (xs X) (xm X) (xa X) (xb X) (xh X) (xc X) H' (locs ++ [⟨ad Y k, f.slot⟩]) cells slots Q (F0 (xm X) (pc + 3) la rest) := by
    intro H' e1 e2 e3
    rw [hsl] at e1
    exact kk H' _ ⟨_, hc, t_OB.to (V := updV (vp_V fs) fi v) ⟨_, e1, q2, q3, t_set q4 hap hN v⟩ (fun j _ => vp_updV_set hlen v j)⟩ e2 e3 (hS.put e2 e3 hA)
  rcases hfin with hfin | ⟨hfin, hnm, hdecl, hlk⟩
  · rw [if_neg (by rw [hfin]; decide)] at hlay
    have h6 := u_store hfc hkC hkind hlay hi (cl_ty hci fi hN) hn' hfit
    rcases hlk with hlk | hlk
    · exact W.putK K.1 K.2.1 (f := f) ⟨K.2.2.2.1, K.w hlk rfl, ⟨_, _, _, hi⟩, hst⟩ (by rw [q2]; exact h6) q1 q3 (by rw [hsl]; exact k2_hasslot (q4 fi hN)) rfl rfl hd fin
    · exact va_WputK K.1 K.2.1 (f := f) K.2.2.2.1 (K.w hlk rfl) hi hst (by rw [q2]; exact h6) q1 q3 (by rw [hsl]; exact k2_hasslot (q4 fi hN)) rfl rfl hd fin
  · rw [if_pos hfin] at hlay
    have hcf : (xm X).cls = cf := by
      obtain ⟨_, _, c', _, _, _, -, -, hf', -, -, -, hown2, -⟩ := Cond.laysFinal_spec hlay
      have e1 : c' = cf := by have := hi.symm.trans hf'; simp at this; exact this.1.symm
      rw [hdecl] at hown2
      rw [← e1]; exact Option.some.inj (K.2.2.2.1.symm.trans hown2)
    have h6 := u_fits hfc hkC hkind (Or.inr hlay) hi (cl_ty hci fi hN) hn' hfit
    have hnm2 : (xh X).name = "<init>" := K.2.2.2.2.2.2.2.2.trans hnm
    exact W.putFinK K.1 K.2.1 K.2.2.2.1 (K.w hlk rfl) hi hst hcf hnm2 (by rw [q2]; exact h6) q1 q3 (by rw [hsl]; exact k2_hasslot (q4 fi hN)) rfl rfl hd fin
theorem yA_hi {k : Nat} (h : 3 ≤ k) : yA Y (ad Y k) := by
  rw [ad_hi Y h]; show yB Y ≤ _; omega
theorem cE_obj {k ci : Nat} (hT : T k = ci) (hci : ci < 9) : cE Y T L P I k = .inr (ci, (List.range (cN ci)).map (fV Y P I ci k)) := by rw [cE, hT, if_pos hci]
theorem cE_arr {k t : Nat} (hT : T k = t) (h9 : 9 ≤ t) (h13 : t < 13) : cE Y T L P I k = .inl (yC Y t, L k, .inl (fun j => Int32.ofInt (I k j))) := by rw [cE, hT, if_neg (by omega), if_pos h13]
theorem cE_rar {k t : Nat} (hT : T k = t) (h13 : 13 ≤ t) : cE Y T L P I k = .inl (yC Y t, L k, .inr (.inr (.inr (.inr (fun j => (P k j).map (ad Y)))))) := by rw [cE, hT, if_neg (by omega), if_neg (by omega)]
/-- a whole number's field is written -/
theorem r_putI (K : OK X Y cc own nL ret R nm) {k ci fi idx : Nat} {z : Int} (hd : decode cc pc = .ok (.putfield idx, 3)) (hl : fL own idx ci fi) (hf : fR ci fi = false) (hfin : (Tn ci fi).2.2.2 = false) (hty : yn ci fi = .int ∨ (yn ci fi = .boolean ∧ (z = 0 ∨ z = 1))) (hT : T k = ci) (kk : RR X Y Q cells slots (pc + 3) ls st T L P (mI I k fi z) hn) : RR X Y Q cells slots pc ls (.inl z :: .inr (some k) :: st) T L P I hn := by
  intro H locs la hH hS hL hV
  have hci := hl.1
  have hN := hl.2.1
  have h3 : 3 ≤ k := hH.ge (by omega)
  have hz := vh hV
  have hnf : narrow (yn ci fi) (.int (Int32.ofInt z)) = .int (Int32.ofInt z) ∧ fits (yn ci fi) (.int (Int32.ofInt z)) = true := by
    rcases hty with e | ⟨e, rfl | rfl⟩
    · rw [e]; exact ⟨rfl, rfl⟩
    · rw [e]; exact ⟨rfl, rfl⟩
    · rw [e]; exact ⟨rfl, rfl⟩
  refine putW K hd hl (Or.inl hfin) hnf.1 hnf.2 (yA_hi h3) hS (hH.obj hT hci) (by simpa using hN) fun H' locs' c1 c2 c3 c4 => ?_
  refine kk H' locs' la (hH.updI h3 c2 c3 hz ?_) c4 hL (vtail (vtail hV))
  rw [cE_obj hT hci]
  have e : (List.range (cN ci)).map (fV Y P (mI I k fi z) ci k) = ((List.range (cN ci)).map (fV Y P I ci k)).set fi (.int (Int32.ofInt z)) := by
    have e0 : fV Y P (mI I k fi z) ci k fi = .int (Int32.ofInt z) := by simp [fV, hf, mI_eq]
    rw [← e0]
    refine (fV_set fun j hj => ?_).symm
    simp only [fV, mI_nj hj]
  rw [e]
  exact c1
/-- a reference's field is written, in its class's constructor -/
theorem r_putR (K : OK X Y cc own nL ret R nm) {k ci fi idx q : Nat} (hd : decode cc pc = .ok (.putfield idx, 3)) (hl : fL own idx ci fi) (hf : fR ci fi = true) (hfin : (Tn ci fi).2.2.2 = true ∧ nm = "<init>" ∧ (Tn ci fi).1 = own ∧ Cond.fieldLink own idx (Tn ci fi).1 (Tn ci fi).2.1 (Tn ci fi).2.2.1 ∈ lw_tbl) (hty : narrow (yn ci fi) (.ref (ad Y q)) = .ref (ad Y q) ∧ fits (yn ci fi) (.ref (ad Y q)) = true) (hT : T k = ci) (kk : RR X Y Q cells slots (pc + 3) ls st T L (mP P k fi (some q)) I hn) : RR X Y Q cells slots pc ls (.inr (some q) :: .inr (some k) :: st) T L P I hn := by
  intro H locs la hH hS hL hV
  have hci := hl.1
  have hN := hl.2.1
  have h3 : 3 ≤ k := hH.ge (by omega)
  refine putW K hd hl (Or.inr hfin) hty.1 hty.2 (yA_hi h3) hS (hH.obj hT hci) (by simpa using hN) fun H' locs' c1 c2 c3 c4 => ?_
  refine kk H' locs' la (hH.updP h3 c2 c3 ?_) c4 hL (vtail (vtail hV))
  rw [cE_obj hT hci]
  have e : (List.range (cN ci)).map (fV Y (mP P k fi (some q)) I ci k) = ((List.range (cN ci)).map (fV Y P I ci k)).set fi (.ref (ad Y q)) := by
    have e0 : fV Y (mP P k fi (some q)) I ci k fi = .ref (ad Y q) := by simp [fV, hf, mP_row, va_rf]
    rw [← e0]
    refine (fV_set fun j hj => ?_).symm
    simp only [fV, mP_row, if_neg hj]
  rw [e]
  exact c1
theorem KK.tys {U : State} (h : KK Y U) : va_K (yD Y) vwCl [(yC Y 10, .int), (yC Y 11, .byte), (yC Y 12, .boolean), (yC Y 13, .object RX0), (yC Y 14, .object RX3)] U := h.1
theorem r_iald (K : OK X Y cc own nL ret R nm) {k : Nat} {i : Int} (hd : decode cc pc = .ok (.iaload, 1)) (hT : T k = 10) (h0 : 0 ≤ i) (h1 : i < L k) (kk : RR X Y Q cells slots (pc + 1) ls (.inl (I k i.toNat) :: st) T L P I hn) : RR X Y Q cells slots pc ls (.inl i :: .inr (some k) :: st) T L P I hn := by
  intro H locs la hH hS hL hV
  have hi := vh hV
  refine va_iald K.1 K.2.1 K.2.2.2.2.1.1 (va_P1 (q := (ad Y k, .inl (yC Y 10, L k, .inl (fun j => Int32.ofInt (I k j))))) (hH.arr hT (by decide) (by decide))) 0 0 rfl rfl (oi_in hi h0 h1) hd ?_
  rw [oi_cl hi]
  exact kk H locs la hH hS hL (vcons (hH.2.2.2.2.1 k _) (vtail (vtail hV)))
theorem r_bald (K : OK X Y cc own nL ret R nm) {k : Nat} {i : Int} (hd : decode cc pc = .ok (.baload, 1)) (hT : T k = 11) (h0 : 0 ≤ i) (h1 : i < L k) (kk : RR X Y Q cells slots (pc + 1) ls (.inl (I k i.toNat) :: st) T L P I hn) : RR X Y Q cells slots pc ls (.inl i :: .inr (some k) :: st) T L P I hn := by
  intro H locs la hH hS hL hV
  have hi := vh hV
  refine va_bald K.1 K.2.1 K.2.2.2.2.1.1 (va_P1 (q := (ad Y k, .inl (yC Y 11, L k, .inl (fun j => Int32.ofInt (I k j))))) (hH.arr hT (by decide) (by decide))) 0 1 rfl rfl (oi_in hi h0 h1) hd ?_
  rw [oi_cl hi]
  exact kk H locs la hH hS hL (vcons (hH.2.2.2.2.1 k _) (vtail (vtail hV)))
theorem r_zald (K : OK X Y cc own nL ret R nm) {k : Nat} {i : Int} (hd : decode cc pc = .ok (.baload, 1)) (hT : T k = 12) (h0 : 0 ≤ i) (h1 : i < L k) (kk : RR X Y Q cells slots (pc + 1) ls (.inl (I k i.toNat) :: st) T L P I hn) : RR X Y Q cells slots pc ls (.inl i :: .inr (some k) :: st) T L P I hn := by
  intro H locs la hH hS hL hV
  have hi := vh hV
  refine va_zald K.1 K.2.1 K.2.2.2.2.1.1 (va_P1 (q := (ad Y k, .inl (yC Y 12, L k, .inl (fun j => Int32.ofInt (I k j))))) (hH.arr hT (by decide) (by decide))) 0 2 rfl rfl (oi_in hi h0 h1) hd ?_
  rw [oi_cl hi]
  exact kk H locs la hH hS hL (vcons (hH.2.2.2.2.1 k _) (vtail (vtail hV)))
/-- the script's, the two tables' -/
theorem r_oald (K : OK X Y cc own nL ret R nm) {k : Nat} {i : Int} (hd : decode cc pc = .ok (.iaload, 1)) (hk : k < 3) (h0 : 0 ≤ i) (h1 : i < L k) (kk : RR X Y Q cells slots (pc + 1) ls (.inl (I k i.toNat) :: st) T L P I hn) : RR X Y Q cells slots pc ls (.inl i :: .inr (some k) :: st) T L P I hn := by
  intro H locs la hH hS hL hV
  have hi := vh hV
  obtain ⟨e1, e2, e3⟩ := hH.2.2.2.2.2 k hk
  have had : ad Y k = ySp Y k := if_pos hk
  obtain ⟨cell, c1, c2, c3, c4, c5, c6, c7⟩ := K.2.2.2.2.1.2.2.2.1 k hk
  have hlt : i.toNat < yL Y k := by omega
  refine W.iald (a := ad Y k) (cell := cell) (v := .int (Int32.ofInt (yI Y k i.toNat))) K.1 K.2.1 ?_ c2 c3 ?_ ?_ rfl rfl hd ?_
  · rw [had, hS.2.1 _ (Array.getElem?_eq_some_iff.mp c1).1 c7]; exact c1
  · rw [oi_cl hi]
    have h2 : ¬ Int32.ofInt i < 0 := by rw [← oi_0, oi_lt hi rg0]; omega
    intro h
    rcases h with h | h
    · exact h2 h
    · omega
  · rw [oi_cl hi]; exact c6 _ hlt
  · rw [← e3]
    exact kk H locs la hH hS hL (vcons (hH.2.2.2.2.1 k _) (vtail (vtail hV)))
theorem r_aald (K : OK X Y cc own nL ret R nm) {k : Nat} {i : Int} (hd : decode cc pc = .ok (.aaload, 1)) (hT : T k = 13 ∨ T k = 14) (h0 : 0 ≤ i) (h1 : i < L k) (kk : RR X Y Q cells slots (pc + 1) ls (.inr (P k i.toNat) :: st) T L P I hn) : RR X Y Q cells slots pc ls (.inl i :: .inr (some k) :: st) T L P I hn := by
  intro H locs la hH hS hL hV
  have hi := vh hV
  have e : va_rf ((P k i.toNat).map (ad Y)) = eV Y (.inr (P k i.toNat)) := by
    cases P k i.toNat <;> rfl
  rcases hT with hT | hT
  · refine va_aldq K.1 K.2.1 K.2.2.2.2.1.1 (va_P1 (q := (ad Y k, .inl (yC Y 13, L k, .inr (.inr (.inr (.inr (fun j => (P k j).map (ad Y)))))))) (hH.rar hT (by decide) (by decide))) 0 3 rfl rfl (oi_in hi h0 h1) hd ?_
    rw [oi_cl hi, e]
    exact kk H locs la hH hS hL (vcons trivial (vtail (vtail hV)))
  · refine va_aldq K.1 K.2.1 K.2.2.2.2.1.1 (va_P1 (q := (ad Y k, .inl (yC Y 14, L k, .inr (.inr (.inr (.inr (fun j => (P k j).map (ad Y)))))))) (hH.rar hT (by decide) (by decide))) 0 4 rfl rfl (oi_in hi h0 h1) hd ?_
    rw [oi_cl hi, e]
    exact kk H locs la hH hS hL (vcons trivial (vtail (vtail hV)))
end MROW
end
section
section STOR
variable {X : Cx} {Y : SY} {Q : State → Prop} {cells slots pc : Nat} {ls : List (Option PV)} {st : List PV} {T L : Nat → Nat} {P : Nat → Nat → Option Nat} {I : Nat → Nat → Int} {hn : Nat} {cc : ByteArray} {own : String} {nL : Nat} {ret : Option FieldType} {R : Room} {nm : String}
theorem cell_up {cA : ClassId} {n i : Nat} {I : Nat → Nat → Int} {k : Nat} {z : Int} {v : Int32} (hv : v = Int32.ofInt z) : (vp_cell cA (n, .inl (fun j => Int32.ofInt (I k j)))).setSlot i (.int v) = vp_cell cA (n, .inl (fun j => Int32.ofInt (mI I k i z k j))) := by
  rw [vp_cell_i, vp_cell_i, arrV_store]
  congr 2
  funext q
  subst hv
  by_cases hq : q = i
  · subst hq; simp [updV, mI_row]
  · simp [updV, mI_row, hq]
theorem r_iast (K : OK X Y cc own nL ret R nm) {k : Nat} {i z : Int} (hd : decode cc pc = .ok (.iastore, 1)) (hT : T k = 10) (h0 : 0 ≤ i) (h1 : i < L k) (kk : RR X Y Q cells slots (pc + 1) ls st T L P (mI I k i.toNat z) hn) : RR X Y Q cells slots pc ls (.inl z :: .inl i :: .inr (some k) :: st) T L P I hn := by
  intro H locs la hH hS hL hV
  have hz := vh hV
  have hi := vh (vtail hV)
  have h3 : 3 ≤ k := hH.ge (by omega)
  refine W.iast K.1 K.2.1 (hH.arr hT (by decide) (by decide)) ((K.2.2.2.2.1.1.2 0 _ rfl).1 (L k) (fun j => .int (Int32.ofInt (I k j)))) (fun q => by cases q) (by show ¬ (_ ∨ (arrV _ _ _).slots.size ≤ _); rw [arrV_size]; exact oi_in hi h0 h1) rfl rfl hd fun H1 e z oq => ?_
  rw [oi_cl hi, cell_up rfl] at e
  refine kk H1 _ la (hH.updI h3 z oq hz ?_) (hS.put z oq (yA_hi h3)) hL (vtail (vtail (vtail hV)))
  rw [cE_arr hT (by decide) (by decide)]
  exact e
theorem r_bast (K : OK X Y cc own nL ret R nm) {k : Nat} {i z : Int} (hd : decode cc pc = .ok (.bastore, 1)) (hT : T k = 11) (h0 : 0 ≤ i) (h1 : i < L k) (kk : RR X Y Q cells slots (pc + 1) ls st T L P (mI I k i.toNat (zByte z)) hn) : RR X Y Q cells slots pc ls (.inl z :: .inl i :: .inr (some k) :: st) T L P I hn := by
  intro H locs la hH hS hL hV
  have hz := vh hV
  have hi := vh (vtail hV)
  have h3 : 3 ≤ k := hH.ge (by omega)
  refine W.bast K.1 K.2.1 (hH.arr hT (by decide) (by decide)) ((K.2.2.2.2.1.1.2 1 _ rfl).1 (L k) (fun j => .int (Int32.ofInt (I k j)))) (fun q => by cases q) (by show ¬ (_ ∨ (arrV _ _ _).slots.size ≤ _); rw [arrV_size]; exact oi_in hi h0 h1) rfl rfl hd fun H1 e z oq => ?_
  rw [oi_cl hi] at e
  refine kk H1 _ la (hH.updI h3 z oq (rg_of _) ?_) (hS.put z oq (yA_hi h3)) hL (vtail (vtail (vtail hV)))
  rw [cE_arr hT (by decide) (by decide)]
  exact e.trans (congrArg some (cell_up (oi_of _).symm))
theorem r_zast (K : OK X Y cc own nL ret R nm) {k : Nat} {i z : Int} (hd : decode cc pc = .ok (.bastore, 1)) (hT : T k = 12) (h0 : 0 ≤ i) (h1 : i < L k) (h01 : z = 0 ∨ z = 1) (kk : RR X Y Q cells slots (pc + 1) ls st T L P (mI I k i.toNat z) hn) : RR X Y Q cells slots pc ls (.inl z :: .inl i :: .inr (some k) :: st) T L P I hn := by
  intro H locs la hH hS hL hV
  have hz := vh hV
  have hi := vh (vtail hV)
  have h3 : 3 ≤ k := hH.ge (by omega)
  refine W.zast K.1 K.2.1 (hH.arr hT (by decide) (by decide)) ((K.2.2.2.2.1.1.2 2 _ rfl).1 (L k) (fun j => .int (Int32.ofInt (I k j)))) (fun q => by cases q) (by show ¬ (_ ∨ (arrV _ _ _).slots.size ≤ _); rw [arrV_size]; exact oi_in hi h0 h1) rfl rfl hd fun H1 e z oq => ?_
  rw [oi_cl hi] at e
  refine kk H1 _ la (hH.updI h3 z oq hz ?_) (hS.put z oq (yA_hi h3)) hL (vtail (vtail (vtail hV)))
  rw [cE_arr hT (by decide) (by decide)]
  rcases h01 with rfl | rfl
  · exact e.trans (congrArg some (cell_up rfl))
  · exact e.trans (congrArg some (cell_up rfl))
theorem r_aast (K : OK X Y cc own nL ret R nm) {k v : Nat} {i : Int} (hd : decode cc pc = .ok (.aastore, 1)) (hT : (T k = 13 ∧ T v = 0) ∨ (T k = 14 ∧ T v = 3)) (h0 : 0 ≤ i) (h1 : i < L k) (kk : RR X Y Q cells slots (pc + 1) ls st T L (mP P k i.toNat (some v)) I hn) : RR X Y Q cells slots pc ls (.inr (some v) :: .inl i :: .inr (some k) :: st) T L P I hn := by
  intro H locs la hH hS hL hV
  have hi := vh (vtail hV)
  have key : ∀ (t ci j : Nat), T k = t → T v = ci → 13 ≤ t → t < 15 → ci < 9 → (∀ x, x = (yC Y t, FieldType.object (Rn ci)) → [(yC Y 10, FieldType.int), (yC Y 11, .byte), (yC Y 12, .boolean), (yC Y 13, .object RX0), (yC Y 14, .object RX3)][j]? = some x) → W (xp X) (xl X) (xe X) (xR X) (xs X) (xm X) (xa X) (xb X) (xh X) (xc X) H locs cells slots Q (F0 (xm X) pc la (((.inr (some v) :: .inl i :: .inr (some k) :: st) : List PV).map (eV Y))) := by
    intro t ci j hT hv h13 h15 hci hj
    have h3 : 3 ≤ k := hH.ge (by omega)
    have hK := K.2.2.2.2.1.1
    obtain ⟨r', hr', cellV, g1, g2, g3, -⟩ := hH.obj hv hci
    have hcls := (hK.1 ci _ (cl_at hci)).2
    obtain ⟨kA, comp, k1, k2, k3, -⟩ := (hK.2 j _ (hj _ rfl)).2
    have hcomp : comp = (yD Y).1 ci := Option.some.inj (k3.symm.trans hcls.1)
    subst hcomp
    obtain ⟨kC, hkC, -⟩ := hcls.2
    refine W.aast K.1 K.2.1 (hH.rar hT h13 h15) (fun q h => by cases h) (fun h => by cases h) k1 k2 rfl hkC ⟨by rw [← oi_0, oi_lt hi rg0]; omega, by show _ < (arrV _ _ _).slots.size; rw [arrV_size, oi_cl hi]; omega⟩ g1 (fun q h => by rw [g3] at h; cases h) (by rw [g2]; exact hkC) (by rw [g2]; exact va_assign hcls) rfl rfl hd fun H1 e z oq => ?_
    refine kk H1 _ la (hH.updP h3 z oq ?_) (hS.put z oq (yA_hi h3)) hL (vtail (vtail (vtail hV)))
    rw [cE_rar hT h13]
    show H1[ad Y k]? = some (vp_cell _ _)
    rw [e, oi_cl hi, vp_cell_q, vp_cell_q, arrV_store]
    congr 2
    funext q
    by_cases hq : q = i.toNat
    · subst hq
      simp [updV, mP_row, va_rf]
    · simp [updV, mP_row, hq]
  rcases hT with ⟨h1, h2⟩ | ⟨h1, h2⟩
  · exact key 13 0 3 h1 h2 (by decide) (by decide) (by decide) (fun x hx => by subst hx; rfl)
  · exact key 14 3 4 h1 h2 (by decide) (by decide) (by decide) (fun x hx => by subst hx; rfl)
theorem r_alen (K : OK X Y cc own nL ret R nm) {k : Nat} (hd : decode cc pc = .ok (.arraylength, 1)) (hT : T k = 10) (hl : L k < 2147483648) (kk : RR X Y Q cells slots (pc + 1) ls (.inl (L k) :: st) T L P I hn) : RR X Y Q cells slots pc ls (.inr (some k) :: st) T L P I hn := by
  intro H locs la hH hS hL hV
  refine va_alen K.1 K.2.1 K.2.2.2.2.1.1 (va_P1 (q := (ad Y k, .inl (yC Y 10, L k, .inl (fun j => Int32.ofInt (I k j))))) (hH.arr hT (by decide) (by decide))) 0 0 rfl rfl rfl hd ?_
  exact kk H locs la hH hS hL (vcons (show rg _ from ⟨by omega, by omega⟩) (vtail hV))
theorem r_olen (K : OK X Y cc own nL ret R nm) {k : Nat} (hd : decode cc pc = .ok (.arraylength, 1)) (hk : k < 3) (kk : RR X Y Q cells slots (pc + 1) ls (.inl (L k) :: st) T L P I hn) : RR X Y Q cells slots pc ls (.inr (some k) :: st) T L P I hn := by
  intro H locs la hH hS hL hV
  obtain ⟨e1, e2, e3⟩ := hH.2.2.2.2.2 k hk
  have had : ad Y k = ySp Y k := if_pos hk
  obtain ⟨cell, c1, c2, c3, c4, c5, c6, c7⟩ := K.2.2.2.2.1.2.2.2.1 k hk
  have hl := K.2.2.2.2.1.2.2.2.2.1 k hk
  refine W.alen (a := ad Y k) (cell := cell) (n := Int32.ofNat (yL Y k)) K.1 K.2.1 (by rw [had, hS.2.1 _ (Array.getElem?_eq_some_iff.mp c1).1 c7]; exact c1) c2 c5 rfl rfl hd ?_
  rw [← e2]
  exact kk H locs la hH hS hL (vcons (show rg _ from ⟨by omega, by omega⟩) (vtail hV))
theorem ad_new {H : Heap} (h : HR Y T L P I hn H) : H.size = ad Y (3 + hn) := by
  rw [ad_hi Y (by omega), h.1]; omega
/-- a new array of whole numbers: t is 10, 11 or 12 -/
theorem r_newa (K : OK X Y cc own nL ret R nm) {at_ : ArrayType} {t : Nat} {n : Int} (hd : decode cc pc = .ok (.newarray at_, 2)) (ht : (at_ = .int ∧ t = 10) ∨ (at_ = .byte ∧ t = 11) ∨ (at_ = .boolean ∧ t = 12)) (hw : Cond.arrayClass (newarray.typeOf at_) ∈ lw_tbl) (h0 : 0 ≤ n) (h1 : n ≤ 100000) (hc : cells + 1 ≤ R.cells) (hs : slots + n.toNat ≤ R.slots)
    (kk : RR X Y Q (cells + 1) (slots + n.toNat) (pc + 2) ls (.inr (some (3 + hn)) :: st) (va_up T (3 + hn) t) (va_up L (3 + hn) n.toNat) (va_up P (3 + hn) (fun _ => none)) (va_up I (3 + hn) (fun _ => 0)) (hn + 1)) : RR X Y Q cells slots pc ls (.inl n :: st) T L P I hn := by
  intro H locs la hH hS hL hV
  have hi := vh hV
  have hR : xR X = R := K.2.2.2.2.2.2.2.1
  have hn0 : ¬ Int32.ofInt n < 0 := by rw [← oi_0, oi_lt hi rg0]; omega
  have hcb : componentBytes (newarray.typeOf at_) ≤ 4 := by rcases ht with ⟨rfl, -⟩ | ⟨rfl, -⟩ | ⟨rfl, -⟩ <;> decide
  have hb : n.toNat * componentBytes (newarray.typeOf at_) ≤ 536870912 := Nat.le_trans (Nat.mul_le_mul_left _ hcb) (by omega)
  refine va_newaK K.1 K.2.1 (K.w hw rfl) rfl hd rfl hn0 (oi_cl hi) hb (by rw [hR]; exact hc) (by rw [hR]; exact hs) (ad_new hH) fun H' cA c1 c2 c3 c4 c5 => ?_
  have z2 : H'.size = H.size + 1 := by rw [c2, ad_new hH]
  have o2 : ∀ q, q < H.size → H'[q]? = H[q]? := fun q hq => c3 q (by rw [← ad_new hH]; exact hq)
  refine kk H' locs la (hH.new (by rcases ht with ⟨-, rfl⟩ | ⟨-, rfl⟩ | ⟨-, rfl⟩ <;> decide) z2 o2 ?_) ⟨by rw [z2]; exact Nat.le_succ_of_le hS.1, fun q g1 g2 => (o2 q (Nat.lt_of_lt_of_le g1 hS.1)).trans (hS.2.1 q g1 g2), hS.2.2⟩ hL (vcons trivial (vtail hV))
  have hcA : cA = yC Y t := by
    rcases ht with ⟨rfl, rfl⟩ | ⟨rfl, rfl⟩ | ⟨rfl, rfl⟩
    · exact Option.some.inj (c5.symm.trans (K.2.2.2.2.1.1.2 0 _ rfl).2)
    · exact Option.some.inj (c5.symm.trans (K.2.2.2.2.1.1.2 1 _ rfl).2)
    · exact Option.some.inj (c5.symm.trans (K.2.2.2.2.1.1.2 2 _ rfl).2)
  have h9 : 9 ≤ t := by rcases ht with ⟨-, rfl⟩ | ⟨-, rfl⟩ | ⟨-, rfl⟩ <;> decide
  have h13 : t < 13 := by rcases ht with ⟨-, rfl⟩ | ⟨-, rfl⟩ | ⟨-, rfl⟩ <;> decide
  have hup : va_up T (3 + hn) t (3 + hn) = t := by simp [va_up]
  rw [cE_arr hup h9 h13]
  show H'[ad Y (3 + hn)]? = some (vp_cell _ _)
  rw [c1, vp_cell_i, hcA]
  congr 2
  · simp [va_up]
  · funext j
    rcases ht with ⟨rfl, -⟩ | ⟨rfl, -⟩ | ⟨rfl, -⟩ <;> simp [va_up] <;> rfl
end STOR
end
section
section CALL
variable {X : Cx} {Y : SY} {Q : State → Prop} {cells slots pc : Nat} {ls : List (Option PV)} {st : List PV} {T L : Nat → Nat} {P : Nat → Nat → Option Nat} {I : Nat → Nat → Int} {hn : Nat} {cc : ByteArray} {own : String} {nL : Nat} {ret : Option FieldType} {R : Room} {nm : String}
theorem fV_new {ci k : Nat} (h : ci < 9) : ∀ j, j < cN ci → defaultValue (yn ci j) = vp_V ((List.range (cN ci)).map (fV Y (va_up P k (fun _ => none)) (va_up I k (fun _ => 0)) ci k)) j := by
  have key : ∀ ci, ci < 9 → ∀ j, j < cN ci → defaultValue (yn ci j) = if fR ci j then .null else .int 0 := fun ci h =>
    ci_9 (P := fun ci => ∀ j, j < cN ci → defaultValue (yn ci j) = if fR ci j then .null else .int 0) (by decide +kernel) (by decide +kernel) (by decide +kernel) (by decide +kernel) (by decide +kernel) (by decide +kernel) (by decide +kernel) (by decide +kernel) (by decide +kernel) h
  intro j hj
  rw [key ci h j hj, vp_V, List.getD_eq_getElem?_getD, fV_at hj]
  simp only [Option.getD_some, fV, va_up, if_true, Option.map_none, va_rf]
  rfl
/-- a new object of class ci -/
theorem r_new (K : OK X Y cc own nL ret R nm) {ci idx : Nat} (hd : decode cc pc = .ok (.new idx, 3)) (hci : ci < 9) (hw : Cond.classLink own idx (Rn ci) ∈ lw_tbl ∧ Cond.instantiable (Rn ci) (cN ci) ∈ lw_tbl ∧ Cond.initialized (Rn ci) ∈ lw_tbl) (hc : cells + 1 ≤ R.cells) (hs : slots + cN ci ≤ R.slots)
    (kk : RR X Y Q (cells + 1) (slots + cN ci) (pc + 3) ls (.inr (some (3 + hn)) :: st) (va_up T (3 + hn) ci) (va_up L (3 + hn) 0) (va_up P (3 + hn) (fun _ => none)) (va_up I (3 + hn) (fun _ => 0)) (hn + 1)) : RR X Y Q cells slots pc ls st T L P I hn := by
  intro H locs la hH hS hL hV
  have hR : xR X = R := K.2.2.2.2.2.2.2.1
  have hKn := K.2.2.2.2.1.1.1 ci _ (cl_at hci)
  refine W.newcK K.1 K.2.1 K.2.2.2.1 (K.w hw.1 rfl) (K.w hw.2.1 rfl) (K.w hw.2.2 rfl) rfl hd (by rw [hR]; exact hc) (by rw [hR]; exact hs) hKn.2.1 (ad_new hH) fun H' kC hkC c1 c2 c3 => ?_
  have z2 : H'.size = H.size + 1 := by rw [c2, ad_new hH]
  have o2 : ∀ q, q < H.size → H'[q]? = H[q]? := fun q hq => c3 q (by rw [← ad_new hH]; exact hq)
  refine kk H' locs la (hH.new (by omega) z2 o2 ?_) ⟨by rw [z2]; exact Nat.le_succ_of_le hS.1, fun q g1 g2 => (o2 q (Nat.lt_of_lt_of_le g1 hS.1)).trans (hS.2.1 q g1 g2), hS.2.2⟩ hL (vcons trivial hV)
  have hup : va_up T (3 + hn) ci (3 + hn) = ci := by simp [va_up]
  rw [cE_obj hup hci]
  exact ⟨_, cl_at hci, (u_born (yn ci) (K.2.2.2.2.1.ts #[]) (cl_in hci) hKn hkC c1 (cl_ty hci)).to (fV_new hci)⟩
/-- a new array of references: 13 of Bytes, 14 of Patch -/
theorem r_newq (K : OK X Y cc own nL ret R nm) {t ci idx : Nat} {n : Int} (hd : decode cc pc = .ok (.anewarray idx, 3)) (ht : (t = 13 ∧ ci = 0) ∨ (t = 14 ∧ ci = 3)) (hw : Cond.classLink own idx (Rn ci) ∈ lw_tbl ∧ Cond.arrayOver (.object (Rn ci)) ∈ lw_tbl) (h0 : 0 ≤ n) (h1 : n ≤ 100000) (hc : cells + 1 ≤ R.cells) (hs : slots + n.toNat ≤ R.slots)
    (kk : RR X Y Q (cells + 1) (slots + n.toNat) (pc + 3) ls (.inr (some (3 + hn)) :: st) (va_up T (3 + hn) t) (va_up L (3 + hn) n.toNat) (va_up P (3 + hn) (fun _ => none)) (va_up I (3 + hn) (fun _ => 0)) (hn + 1)) : RR X Y Q cells slots pc ls (.inl n :: st) T L P I hn := by
  intro H locs la hH hS hL hV
  have hi := vh hV
  have hR : xR X = R := K.2.2.2.2.2.2.2.1
  have hn0 : ¬ Int32.ofInt n < 0 := by rw [← oi_0, oi_lt hi rg0]; omega
  refine W.anew K.1 K.2.1 K.2.2.2.1 (K.w hw.1 rfl) (K.w hw.2 rfl) rfl hd rfl hn0 (by rw [oi_cl hi]; omega) (by rw [hR]; exact hc) (by rw [hR, oi_cl hi]; exact hs) fun cA kA comp f1 f2 f3 f4 => ?_
  rw [oi_cl hi, ad_new hH]
  generalize hH1 : H.push ({ cls := cA, slots := Array.replicate n.toNat .null, vm := .none } : Cell) = H'
  have z2 : H'.size = H.size + 1 := by rw [← hH1, Array.size_push]
  have e1 : H'[H.size]? = some (arrV cA n.toNat (fun _ => .null)) := by rw [← hH1, Array.getElem?_push_size, ← arrV_new]
  have o2 : ∀ q : Nat, q < H.size → H'[q]? = H[q]? := fun q hq => by rw [← hH1, Array.getElem?_push, if_neg (Nat.ne_of_lt hq)]
  refine kk H' locs la (hH.new (by rcases ht with ⟨rfl, -⟩ | ⟨rfl, -⟩ <;> decide) z2 o2 ?_) ⟨by rw [z2]; exact Nat.le_succ_of_le hS.1, fun q g1 g2 => (o2 q (Nat.lt_of_lt_of_le g1 hS.1)).trans (hS.2.1 q g1 g2), hS.2.2⟩ hL (vcons trivial (vtail hV))
  have h13 : 13 ≤ t := by rcases ht with ⟨rfl, -⟩ | ⟨rfl, -⟩ <;> decide
  have hcA : cA = yC Y t := by
    rcases ht with ⟨rfl, rfl⟩ | ⟨rfl, rfl⟩
    · obtain ⟨_, _, -, -, -, g4⟩ := (K.2.2.2.2.1.1.2 3 _ rfl).2
      exact Option.some.inj (f1.symm.trans g4)
    · obtain ⟨_, _, -, -, -, g4⟩ := (K.2.2.2.2.1.1.2 4 _ rfl).2
      exact Option.some.inj (f1.symm.trans g4)
  have hup : va_up T (3 + hn) t (3 + hn) = t := by simp [va_up]
  rw [cE_rar hup h13]
  show H'[ad Y (3 + hn)]? = some (vp_cell _ _)
  rw [← ad_new hH, e1, vp_cell_q, hcA]
  congr 2
  · simp [va_up]
  · funext j
    simp [va_up, va_rf]
theorem r_ifnonnull (K : OK X Y cc own nL ret R nm) {o : Option Nat} {off : Int} (tgt : Nat) (hd : decode cc pc = .ok (.ifnonnull off, 3)) (ht : (pc : Int) + off = (tgt : Int)) (kt : ∀ q, o = some q → RR X Y Q cells slots tgt ls st T L P I hn) (kf : o = none → RR X Y Q cells slots (pc + 3) ls st T L P I hn) : RR X Y Q cells slots pc ls (.inr o :: st) T L P I hn := by
  intro H locs la hH hS hL hV
  cases o with
  | none => exact lv_ifnonnullN K.1 K.2.1 hd (kf rfl H locs la hH hS hL (vtail hV))
  | some q => exact lv_ifnonnull K.1 K.2.1 hd ht (kt q rfl H locs la hH hS hL (vtail hV))
theorem r_tableOut (K : OK X Y cc own nL ret R nm) {dflt lo hi : Int} {offs : Array Int} {len : Nat} {x : Int} (tgt : Nat) (hd : decode cc pc = .ok (.tableswitch dflt lo hi offs, len)) (h : x < lo ∨ hi < x) (ht : (pc : Int) + dflt = (tgt : Int)) (k : RR X Y Q cells slots tgt ls st T L P I hn) : RR X Y Q cells slots pc ls (.inl x :: st) T L P I hn :=
  fun H locs la hH hS hL hV => lv_tableOut K.1 K.2.1 hd (by rw [oi_toInt (vh hV)]; exact h) ht (k H locs la hH hS hL (vtail hV))
theorem r_tableIn (K : OK X Y cc own nL ret R nm) {dflt lo hi : Int} {offs : Array Int} {len : Nat} {x off : Int} (tgt : Nat) (hd : decode cc pc = .ok (.tableswitch dflt lo hi offs, len)) (h1 : lo ≤ x) (h2 : x ≤ hi) (ho : offs[(x - lo).toNat]? = some off) (ht : (pc : Int) + off = (tgt : Int)) (k : RR X Y Q cells slots tgt ls st T L P I hn) : RR X Y Q cells slots pc ls (.inl x :: st) T L P I hn :=
  fun H locs la hH hS hL hV => lv_tableIn K.1 K.2.1 hd (by rw [oi_toInt (vh hV)]; omega) (by rw [oi_toInt (vh hV)]; omega) (by rw [oi_toInt (vh hV)]; exact ho) ht (k H locs la hH hS hL (vtail hV))
theorem r_lookup (K : OK X Y cc own nL ret R nm) {dflt : Int} {ps : Array (Int × Int)} {len : Nat} {x off : Int} (tgt : Nat) (hd : decode cc pc = .ok (.lookupswitch dflt ps, len)) (hp : (ps.toList.zip (ps.toList.drop 1)).all (fun (a, next) => a.1 < next.1) = true) (ho : Op.lookupswitch.offset ps.toList dflt x = off) (ht : (pc : Int) + off = (tgt : Int)) (k : RR X Y Q cells slots tgt ls st T L P I hn) : RR X Y Q cells slots pc ls (.inl x :: st) T L P I hn :=
  fun H locs la hH hS hL hV => lv_lookup K.1 K.2.1 hd hp (by rw [oi_toInt (vh hV)]; exact ho) ht (k H locs la hH hS hL (vtail hV))
/-- getstatic of the two tables: 1 is PAIR_FROM, 2 is PAIR_TO -/
theorem r_gets (K : OK X Y cc own nL ret R nm) {idx k : Nat} (hd : decode cc pc = .ok (.getstatic idx, 3)) (hk : (k = 1 ∧ (Cond.fieldLink own idx "PatchBench" "PAIR_FROM" "[I" ∈ lw_tbl ∨ Cond.fieldLinkNest own idx "PatchBench" "PAIR_FROM" "[I" "PatchBench" ∈ lw_tbl)) ∨ (k = 2 ∧ (Cond.fieldLink own idx "PatchBench" "PAIR_TO" "[I" ∈ lw_tbl ∨ Cond.fieldLinkNest own idx "PatchBench" "PAIR_TO" "[I" "PatchBench" ∈ lw_tbl))) (kk : RR X Y Q cells slots (pc + 3) ls (.inr (some k) :: st) T L P I hn) : RR X Y Q cells slots pc ls st T L P I hn := by
  intro H locs la hH hS hL hV
  have go := kk H locs la hH hS hL (vcons trivial hV)
  have e1 : ySp Y 1 = ad Y 1 := (if_pos (by decide)).symm
  have e2 : ySp Y 2 = ad Y 2 := (if_pos (by decide)).symm
  have z1 := K.2.2.2.2.1.2.2.2.2.2.2.1
  have z2 := K.2.2.2.2.1.2.2.2.2.2.2.2
  rw [e1] at z1
  rw [e2] at z2
  rcases hk with ⟨rfl, hl | hl⟩ | ⟨rfl, hl | hl⟩
  · exact va_gets K.1 K.2.1 z1 hS K.2.2.2.1 (K.w hl rfl) (fun _ h => h) hd go
  · exact va_getsN K.1 K.2.1 z1 hS K.2.2.2.1 (K.w hl rfl) (fun _ h => h) hd go
  · exact va_gets K.1 K.2.1 z2 hS K.2.2.2.1 (K.w hl rfl) (fun _ h => h) hd go
  · exact va_getsN K.1 K.2.1 z2 hS K.2.2.2.1 (K.w hl rfl) (fun _ h => h) hd go
theorem st_sum (Y : SY) (st : List PV) : ((st.map (eV Y)).map fun v => v.category).sum = st.length := by
  induction st with
  | nil => rfl
  | cons v st ih =>
    rw [List.map_cons, List.map_cons, List.sum_cons, eV_cat, ih, List.length_cons, Nat.add_comm]
theorem r_min (K : OK X Y cc own nL ret R nm) {x y : Int} {idx : Nat} (hd : decode cc pc = .ok (.invokestatic idx, 3)) (hw : Cond.methodLink own idx Lib.Math.min.name ∈ lw_tbl) (hf : 1 ≤ R.frames) (hlo : st.length + 13 ≤ R.locals) (hc : cells ≤ R.cells) (hs : slots ≤ R.slots) (kk : RR X Y Q cells slots (pc + 3) ls (.inl (if y < x then y else x) :: st) T L P I hn) : RR X Y Q cells slots pc ls (.inl y :: .inl x :: st) T L P I hn := by
  intro H locs la hH hS hL hV
  have hR : xR X = R := K.2.2.2.2.2.2.2.1
  have hy := vh hV
  have hx := vh (vtail hV)
  refine va_mmin K.1 K.2.1 (hL.1.1.symm) K.2.2.2.1 (K.w hw rfl) (K.w (by decide +kernel) rfl) (K.w (by decide +kernel) rfl) (K.w (by decide +kernel) rfl) (by rw [hR]; exact hf) (by rw [hR, st_sum]; exact hlo) (by rw [hR]; exact hc) (by rw [hR]; exact hs) hd ?_
  have e : (if Int32.ofInt y < Int32.ofInt x then Int32.ofInt y else Int32.ofInt x) = Int32.ofInt (if y < x then y else x) := by
    by_cases h : y < x
    · rw [if_pos h, if_pos ((oi_lt hy hx).mpr h)]
    · rw [if_neg h, if_neg (fun q => h ((oi_lt hy hx).mp q))]
  rw [e]
  exact kk H locs la hH hS hL (vcons (show rg _ by split <;> assumption) (vtail (vtail hV)))
theorem r_max (K : OK X Y cc own nL ret R nm) {x y : Int} {idx : Nat} (hd : decode cc pc = .ok (.invokestatic idx, 3)) (hw : Cond.methodLink own idx Lib.Math.max.name ∈ lw_tbl) (hf : 1 ≤ R.frames) (hlo : st.length + 13 ≤ R.locals) (hc : cells ≤ R.cells) (hs : slots ≤ R.slots) (kk : RR X Y Q cells slots (pc + 3) ls (.inl (if x < y then y else x) :: st) T L P I hn) : RR X Y Q cells slots pc ls (.inl y :: .inl x :: st) T L P I hn := by
  intro H locs la hH hS hL hV
  have hR : xR X = R := K.2.2.2.2.2.2.2.1
  have hy := vh hV
  have hx := vh (vtail hV)
  refine va_mmax K.1 K.2.1 (hL.1.1.symm) K.2.2.2.1 (K.w hw rfl) (K.w (by decide +kernel) rfl) (K.w (by decide +kernel) rfl) (K.w (by decide +kernel) rfl) (by rw [hR]; exact hf) (by rw [hR, st_sum]; exact hlo) (by rw [hR]; exact hc) (by rw [hR]; exact hs) hd ?_
  have e : (if Int32.ofInt x < Int32.ofInt y then Int32.ofInt y else Int32.ofInt x) = Int32.ofInt (if x < y then y else x) := by
    by_cases h : x < y
    · rw [if_pos h, if_pos ((oi_lt hx hy).mpr h)]
    · rw [if_neg h, if_neg (fun q => h ((oi_lt hx hy).mp q))]
  rw [e]
  exact kk H locs la hH hS hL (vcons (show rg _ by split <;> assumption) (vtail (vtail hV)))
end CALL
end
section
abbrev Po : Type := Option PV → (Nat → Nat) → (Nat → Nat) → (Nat → Nat → Option Nat) → (Nat → Nat → Int) → Nat → Prop
def PO (Y : SY) (post : Po) : Array Value → State → Outcome → State → Prop := fun _ s o t =>
  (∃ (r : Option PV) (T L : Nat → Nat) (P : Nat → Nat → Option Nat) (I : Nat → Nat → Int) (hn : Nat), o = .returned (r.map (eV Y)) ∧ (∀ v, r = some v → vg v) ∧ post r T L P I hn ∧ HR Y T L P I hn t.heap) ∧ va_F (yA Y) s t
def PR (Y : SY) (pa : List PV) (T L : Nat → Nat) (P : Nat → Nat → Option Nat) (I : Nat → Nat → Int) (hn : Nat) : Array Value → State → Prop := fun a U =>
  a = (pa.map (eV Y)).toArray ∧ (∀ v ∈ pa, vg v) ∧ KK Y U ∧ HR Y T L P I hn U.heap
abbrev rm_ (fr lo mc ms : Nat) : Room := { frames := fr, cells := mc, slots := ms, locals := lo }
/-- a method's contract: called with these arguments in this memory it returns, and post holds of its answer and the memory then; at most mc cells of ms slots are new -/
def CT (y : MethodName) (cc : ByteArray) (nL : Nat) (ret : Option FieldType) (fr lo mc ms : Nat) (pa : List PV) (T L : Nat → Nat) (P : Nat → Nat → Option Nat) (I : Nat → Nat → Int) (hn : Nat) (post : Po) : Prop :=
  ∀ (l : Launch) (Y : SY), Met l y [.code y cc nL ret] (rm_ fr lo mc ms) (PR Y pa T L P I hn) (PO Y post) mc ms (yA Y)
theorem lv_args1 (Y : SY) : ∀ (pa : List PV) (i j : Nat) (v : PV), pa[j]? = some v → (i + j, eV Y v) ∈ lv_args i (pa.map (eV Y))
  | [], _, _, _, h => by simp at h
  | w :: pa, i, 0, v, h => by
    rw [List.getElem?_cons_zero] at h
    cases h
    simp only [List.map_cons, lv_args, Nat.add_zero]
    exact List.mem_cons_self
  | w :: pa, i, j + 1, v, h => by
    rw [List.getElem?_cons_succ] at h
    simp only [List.map_cons, lv_args, eV_cat]
    refine List.mem_cons_of_mem _ ?_
    have := lv_args1 Y pa (i + 1) j v h
    rw [show i + (j + 1) = i + 1 + j by omega]
    exact this
theorem lg_len (Y : SY) : ∀ pa : List PV, (lg_sl (pa.map (eV Y))).length = pa.length
  | [] => rfl
  | v :: pa => by
    have := lg_len Y pa
    simp only [lg_sl, List.map_cons, List.flatMap_cons, eV_cat, List.length_append, List.length_cons] at this ⊢
    simp only [this]
    simp
    omega
def ls0 (pa : List PV) (nL : Nat) : List (Option PV) := pa.map some ++ List.replicate (nL - pa.length) none
theorem LH.entry {Y : SY} {pa : List PV} {nL : Nat} (h : pa.length ≤ nL) (hv : ∀ v ∈ pa, vg v) : LH Y ((lg_sl (pa.map (eV Y)) ++ List.replicate (nL - (lg_sl (pa.map (eV Y))).length) Slot.unset).toArray) nL (ls0 pa nL) := by
  have hl := lv_entry (pa.map (eV Y)) (n := nL) (by rw [lg_len]; exact h)
  have key : ∀ (i : Nat) (v : PV), (ls0 pa nL)[i]? = some (some v) → pa[i]? = some v := by
    intro i v hi
    unfold ls0 at hi
    rcases Nat.lt_or_ge i pa.length with q | q
    · rw [List.getElem?_append_left (by simpa using q), List.getElem?_map] at hi
      cases hp : pa[i]? with
      | none => rw [hp] at hi; cases hi
      | some w => rw [hp] at hi; cases hi; rfl
    · rw [List.getElem?_append_right (by simpa using q)] at hi
      have := List.eq_of_mem_replicate (List.mem_of_getElem? hi)
      cases this
  refine ⟨⟨hl.1, hl.2.1, fun q hq => ?_⟩, fun i v hi => hv v (List.mem_of_getElem? (key i v hi))⟩
  obtain ⟨i, x⟩ := q
  obtain ⟨v, h1, rfl⟩ := pl_mem.mp hq
  have := lv_args1 Y pa 0 i v (key i v h1)
  rw [Nat.zero_add] at this
  exact hl.2.2 _ this
section CTOF
variable {y : MethodName} {cc : ByteArray} {nL : Nat} {ret : Option FieldType} {fr lo mc ms : Nat} {pa : List PV} {T L : Nat → Nat} {P : Nat → Nat → Option Nat} {I : Nat → Nat → Int} {hn : Nat} {post : Po}
/-- the end that a contract wants -/
def QM (X : Cx) (Y : SY) (post : Po) (mc ms : Nat) : State → Prop := MQ (xb X) (PO Y post) (xa X) (xs X) mc ms (yA Y)
theorem CT.of (hy : plainName y.cls = true) (hpa : pa.length ≤ nL) (body : ∀ (X : Cx) (Y : SY), OK X Y cc y.cls nL ret (rm_ fr lo mc ms) y.name → (∀ v ∈ pa, vg v) → RR X Y (QM X Y post mc ms) 0 0 0 (ls0 pa nL) [] T L P I hn) : CT y cc nL ret fr lo mc ms pa T L P I hn post := by
  intro l Y
  refine Met.ofW (cc := cc) (maxL := nL) (ret := ret) hy rfl ?_
  intro p e s m args below meth c s₁ B hml hv
  obtain ⟨rfl, hvg, hK, hH⟩ := hv
  have h := body (p, l, e, rm_ fr lo mc ms, s, m, ((pa.map (eV Y)).toArray), below, meth, c) Y ⟨B.exec, B.bytes, hml, findClass_of_methodNamed B.named, hK, B.returns, B.notSynchronized, rfl, (name_of_methodNamed B.named B.method).1⟩ hvg
  rw [lg_entry_eq]
  refine h s.heap [] _ hH va_S.rf ?_ (fun v hv => by cases hv)
  show LH Y _ c.maxLocals _
  rw [hml]
  exact LH.entry hpa hvg
end CTOF
section RETS
variable {X : Cx} {Y : SY} {cells slots pc : Nat} {ls : List (Option PV)} {T L : Nat → Nat} {P : Nat → Nat → Option Nat} {I : Nat → Nat → Int} {hn : Nat} {cc : ByteArray} {own : String} {nL : Nat} {R : Room} {nm : String} {post : Po} {mc ms : Nat}
theorem r_iret {ret : Option FieldType} (K : OK X Y cc own nL ret R nm) (hr : ret = some .int) {z : Int} (hd : decode cc pc = .ok (.ireturn, 1)) (hc : cells ≤ mc) (hs : slots ≤ ms) (hp : post (some (.inl z)) T L P I hn) : RR X Y (QM X Y post mc ms) cells slots pc ls [.inl z] T L P I hn := by
  subst hr
  intro H locs la hH hS hL hV
  refine W.widen hc hs ?_
  exact W.iret (v := Int32.ofInt z) K.1 K.2.1 K.2.2.2.2.2.1 (fun t ht hW => ⟨⟨some (.inl z), T, L, P, I, hn, rfl, fun v hv => by cases hv; exact vh hV, hp, by rw [ht]; exact hH⟩, hS.F ht⟩) hS.2.2 hd K.2.2.2.2.2.2.1
theorem r_zret {ret : Option FieldType} (K : OK X Y cc own nL ret R nm) (hr : ret = some .boolean) {z : Int} (hd : decode cc pc = .ok (.ireturn, 1)) (h01 : z = 0 ∨ z = 1) (hc : cells ≤ mc) (hs : slots ≤ ms) (hp : post (some (.inl z)) T L P I hn) : RR X Y (QM X Y post mc ms) cells slots pc ls [.inl z] T L P I hn := by
  subst hr
  intro H locs la hH hS hL hV
  refine W.widen hc hs ?_
  have hn' : narrow .boolean (.int (Int32.ofInt z)) = .int (Int32.ofInt z) := by rcases h01 with rfl | rfl <;> rfl
  exact W.zret (v := Int32.ofInt z) K.1 K.2.1 K.2.2.2.2.2.1 hn' (fun t ht hW => ⟨⟨some (.inl z), T, L, P, I, hn, rfl, fun v hv => by cases hv; exact vh hV, hp, by rw [ht]; exact hH⟩, hS.F ht⟩) hS.2.2 hd K.2.2.2.2.2.2.1
theorem r_vret {ret : Option FieldType} (K : OK X Y cc own nL ret R nm) (hr : ret = none) (hd : decode cc pc = .ok (.return_, 1)) (hc : cells ≤ mc) (hs : slots ≤ ms) (hp : post none T L P I hn) : RR X Y (QM X Y post mc ms) cells slots pc ls [] T L P I hn := by
  subst hr
  intro H locs la hH hS hL hV
  refine W.widen hc hs ?_
  exact W.vret K.1 K.2.1 K.2.2.2.2.2.1 (fun t ht hW => ⟨⟨none, T, L, P, I, hn, rfl, fun v hv => (by cases hv), hp, by rw [ht]; exact hH⟩, hS.F ht⟩) hS.2.2 hd K.2.2.2.2.2.2.1
theorem r_aret {ret : Option FieldType} (K : OK X Y cc own nL ret R nm) {C : String} (hr : ret = some (.object C)) {q : Nat} (hd : decode cc pc = .ok (.areturn, 1)) (hc : cells ≤ mc) (hs : slots ≤ ms) (hp : post (some (.inr (some q))) T L P I hn) : RR X Y (QM X Y post mc ms) cells slots pc ls [.inr (some q)] T L P I hn := by
  subst hr
  intro H locs la hH hS hL hV
  refine W.widen hc hs ?_
  exact W.aret (v := .ref (ad Y q)) K.1 K.2.1 K.2.2.2.2.2.1 (Or.inl ⟨_, rfl⟩) (Or.inr ⟨_, rfl⟩) (fun t ht hW => ⟨⟨some (.inr (some q)), T, L, P, I, hn, rfl, fun v hv => by cases hv; trivial, hp, by rw [ht]; exact hH⟩, hS.F ht⟩) hS.2.2 hd K.2.2.2.2.2.2.1
end RETS
section CALLS
variable {X : Cx} {Y : SY} {Q : State → Prop} {cells slots pc : Nat} {ls : List (Option PV)} {st : List PV} {T L : Nat → Nat} {P : Nat → Nat → Option Nat} {I : Nat → Nat → Int} {hn : Nat} {cc : ByteArray} {own : String} {nL : Nat} {ret : Option FieldType} {R : Room} {nm : String}
variable {y : MethodName} {cy : ByteArray} {ny : Nat} {ry : Option FieldType} {fr lo mc ms : Nat} {pa : List PV} {post : Po} {idx : Nat}
theorem run_go {H : Heap} {locs : List Loc} {la : Array Slot} {st0 : List Value} {a : Array Value} (hL : LH Y la (xc X).maxLocals ls) (hV : ∀ v ∈ st, vg v) (hr : va_Run (xp X) (xl X) (xe X) (xR X) (xs X) (xm X) (xa X) (xb X) (xh X) (xc X) H locs cells slots mc ms (F0 (xm X) pc la st0) (st.map (eV Y)) (PO Y post a) (yA Y)) (hS : va_S (yA Y) (xs X).heap H locs)
    (kk : ∀ (r : Option PV) (T L : Nat → Nat) (P : Nat → Nat → Option Nat) (I : Nat → Nat → Int) (hn : Nat), post r T L P I hn → RR X Y Q (cells + mc) (slots + ms) (pc + 3) ls (r.toList ++ st) T L P I hn) : W (xp X) (xl X) (xe X) (xR X) (xs X) (xm X) (xa X) (xb X) (xh X) (xc X) H locs cells slots Q (F0 (xm X) pc la st0) := by
  intro U hU Z
  obtain ⟨v, st₀, t, U', Lc, h0, Z', hLc, e1, e2, ⟨⟨r, T1, L1, P1, I1, n1, hv, hvg, hp, hH⟩, hz, hk⟩, go⟩ := hr U hU Z
  have hv : v = r.map (eV Y) := by cases hv; rfl
  subst hv
  rw [h0] at hz hk
  obtain ⟨t2, a1, b1⟩ := kk r T1 L1 P1 I1 n1 hp U'.heap (locs ++ Lc) la (by rw [e1]; exact hH) ⟨Nat.le_trans hS.1 (by rw [e1]; exact hz), fun q h1 h2 => by rw [e1, hk q (Nat.lt_of_lt_of_le h1 hS.1) h2]; exact hS.2.1 q h1 h2, fun q hq => by
      rcases List.mem_append.mp hq with h | h
      · exact hS.2.2 q h
      · exact hLc q h⟩ hL (fun w hw => by
      rcases List.mem_append.mp hw with h | h
      · cases r with
        | none => cases h
        | some x => rw [List.mem_singleton.mp h]; exact hvg x rfl
      · exact hV w h) U' rfl Z'
  refine ⟨t2, go t2 ?_, b1⟩
  cases r with
  | none => exact a1
  | some x => exact a1
theorem PR_blind : FrameBlind (PR Y pa T L P I hn) := by
  intro a U g mk h
  obtain ⟨h1, h2, h3, h4⟩ := h
  exact ⟨h1, h2, h3.warm (U := U.calling g mk a) (State.WarmedH.refl U) h3.2.2.1 (fun _ _ _ => rfl), h4⟩
theorem PR_at {H : Heap} {locs : List Loc} (K : OK X Y cc own nL ret R nm) (hH : HR Y T L P I hn H) (hS : va_S (yA Y) (xs X).heap H locs) (hpa : ∀ v ∈ pa, vg v) : ∀ U : State, U.heap = H → (xs X).WarmedH U.vm → PR Y pa T L P I hn (pa.map (eV Y)).toArray U := by
  intro U hU hW
  refine ⟨rfl, hpa, K.2.2.2.2.1.warm hW ?_ ?_, by rw [hU]; exact hH⟩
  · rw [hU, hH.1]; omega
  · intro q h1 h2
    rw [hU]
    exact hS.2.1 q h1 h2
/-- what a call needs of the tables: by its own link, or a nest mate's -/
def cL (own : String) (idx : Nat) (y : MethodName) (cy : ByteArray) (ny : Nat) (ry : Option FieldType) (n : Nat) : Prop :=
  (Cond.methodLink own idx y ∈ lw_tbl ∨ Cond.methodLinkNest own idx y "PatchBench" ∈ lw_tbl) ∧ Cond.code y cy ny ry ∈ lw_tbl ∧ Cond.initialized y.cls ∈ lw_tbl ∧ y.cls ≠ "java/lang/invoke/MethodHandle" ∧ y.cls ≠ "java/lang/invoke/VarHandle" ∧ (parseMethodDescriptor y.desc).map (fun d => d.parameters.length) = some n
theorem cL_B (K : OK X Y cc own nL ret R nm) {n : Nat} (h : cL own idx y cy ny ry n) (hl : Cond.methodLink own idx y ∈ lw_tbl) (hf : fr + 1 ≤ R.frames) (hlo : 19 + ny + lo ≤ R.locals) : CallB (xR X) (xs X) (xa X) own idx y cy ny ry [.code y cy ny ry] (rm_ fr lo mc ms) mc ms n := by
  obtain ⟨-, h2, h3, h4, h5, h6⟩ := h
  have hR : xR X = R := K.2.2.2.2.2.2.2.1
  refine ⟨rfl, rfl, by rw [hR]; exact hf, by rw [hR]; show 8 + (ny + 11) + lo ≤ _; omega, fun w hw a' U hW => ?_, List.mem_cons_self, K.w h2 rfl, K.w h3 rfl, ⟨h4, h5⟩, fun sig hsig => ?_, K.w hl rfl⟩
  · rw [List.mem_singleton.mp hw]
    exact mov_warm rfl hW (K.w h2 rfl (a := #[]))
  · rw [hsig] at h6
    exact (Option.some.inj h6).symm
theorem cL_N (K : OK X Y cc own nL ret R nm) {n : Nat} (h : cL own idx y cy ny ry n) (hl : Cond.methodLinkNest own idx y "PatchBench" ∈ lw_tbl) (hf : fr + 1 ≤ R.frames) (hlo : 19 + ny + lo ≤ R.locals) : va_CN (xR X) (xs X) (xa X) own idx y "PatchBench" cy ny ry [.code y cy ny ry] (rm_ fr lo mc ms) mc ms n := by
  obtain ⟨-, h2, h3, h4, h5, h6⟩ := h
  have hR : xR X = R := K.2.2.2.2.2.2.2.1
  refine ⟨⟨rfl, rfl, by rw [hR]; exact hf, by rw [hR]; show 8 + (ny + 11) + lo ≤ _; omega, fun w hw a' U hW => ?_, List.mem_cons_self⟩, K.w h2 rfl, K.w h3 rfl, ⟨h4, h5⟩, fun sig hsig => ?_, K.w hl rfl⟩
  · rw [List.mem_singleton.mp hw]
    exact mov_warm rfl hW (K.w h2 rfl (a := #[]))
  · rw [hsig] at h6
    exact (Option.some.inj h6).symm
theorem map_rev (Y : SY) (pa st : List PV) : (pa.reverse ++ st).map (eV Y) = (pa.map (eV Y)).reverse ++ st.map (eV Y) := by simp
theorem room_st (Y : SY) {la : Array Slot} {m : MethodId} {s0 : List Value} (st : List PV) (h : st.length ≤ 8) : 2 * (F0 m pc la s0).monitorRoom + ((st.map (eV Y)).map fun v => v.category).sum ≤ 8 := lv_room (by rw [st_sum]; exact h)
/-- a call of an instance's method -/
theorem r_callV (K : OK X Y cc own nL ret R nm) {b ci n : Nat} (pa : List PV) (hd : decode cc pc = .ok (.invokevirtual idx, 3)) (hw : cL own idx y cy ny ry n) (hw2 : Cond.instanceMethod y ∈ lw_tbl ∧ Cond.selects y.cls y y ∈ lw_tbl ∧ ci < 9 ∧ Rn ci = y.cls) (hn' : pa.length = n) (hT : T b = ci) (hM : CT y cy ny ry fr lo mc ms (.inr (some b) :: pa) T L P I hn post) (hf : fr + 1 ≤ R.frames) (hlo : 19 + ny + lo ≤ R.locals) (hc : cells + mc ≤ R.cells) (hs : slots + ms ≤ R.slots) (hst : st.length ≤ 8) {st0 : List PV} (hst0 : st0 = pa.reverse ++ .inr (some b) :: st)
    (kk : ∀ (r : Option PV) (T L : Nat → Nat) (P : Nat → Nat → Option Nat) (I : Nat → Nat → Int) (hn : Nat), post r T L P I hn → RR X Y Q (cells + mc) (slots + ms) (pc + 3) ls (r.toList ++ st) T L P I hn) : RR X Y Q cells slots pc ls st0 T L P I hn := by
  subst hst0
  intro H locs la hH hS hL hV
  have hR : xR X = R := K.2.2.2.2.2.2.2.1
  have hpa : ∀ v ∈ (.inr (some b) :: pa : List PV), vg v := fun v hv => by
    rcases List.mem_cons.mp hv with h | h
    · rw [h]; trivial
    · exact hV v (List.mem_append_left _ (List.mem_reverse.mpr h))
  have hVst : ∀ v ∈ st, vg v := fun v hv => hV v (List.mem_append_right _ (List.mem_cons_of_mem _ hv))
  have hpre := PR_at K hH hS hpa
  obtain ⟨hin, hsel, hci, hC⟩ := hw2
  obtain ⟨r', hr', cell, g1, g2, g3, -⟩ := hH.obj hT hci
  have hrecv : ∃ cellB : Cell, H[ad Y b]? = some cellB ∧ cellB.vm.isStatics = false ∧ (xs X).vm.findClass y.cls = some cellB.cls := ⟨cell, g1, by rw [g3]; rfl, by rw [g2, ← hC]; exact (K.2.2.2.2.1.1.1 ci _ (cl_at hci)).2.1⟩
  rw [map_rev]
  have hcs : cells + mc ≤ (xR X).cells ∧ slots + ms ≤ (xR X).slots := by rw [hR]; exact ⟨hc, hs⟩
  rcases hw.1 with hl | hl
  · exact run_go hL hVst (va_runV (As := pa.map (eV Y)) (rest := st.map (eV Y)) (Ts := tbl) (b := ad Y b) ⟨K.1, K.2.1, K.2.2.1, K.2.2.2.1, K.2.2.2.2.1.ts _⟩ (hM (xl X) Y) ⟨cL_B K hw hl hf hlo, K.w hin rfl, K.w hsel rfl⟩ ⟨PR_blind, hrecv, hpre⟩ rfl (by simpa using hn') (by rw [← K.2.2.1]; exact hL.1.1) rfl (room_st Y st hst) hd hcs) hS kk
  · exact run_go hL hVst (va_runVN (As := pa.map (eV Y)) (rest := st.map (eV Y)) (Ts := tbl) (b := ad Y b) ⟨K.1, K.2.1, K.2.2.1, K.2.2.2.1, K.2.2.2.2.1.ts _⟩ (hM (xl X) Y) ⟨cL_N K hw hl hf hlo, K.w hin rfl, K.w hsel rfl⟩ ⟨PR_blind, hrecv, hpre⟩ rfl (by simpa using hn') (by rw [← K.2.2.1]; exact hL.1.1) rfl (room_st Y st hst) hd hcs) hS kk
/-- a call of a class's method -/
theorem r_callS (K : OK X Y cc own nL ret R nm) {n : Nat} (pa : List PV) (hd : decode cc pc = .ok (.invokestatic idx, 3)) (hw : cL own idx y cy ny ry n) (hw2 : Cond.static y ∈ lw_tbl) (hn' : pa.length = n) (hM : CT y cy ny ry fr lo mc ms pa T L P I hn post) (hf : fr + 1 ≤ R.frames) (hlo : 19 + ny + lo ≤ R.locals) (hc : cells + mc ≤ R.cells) (hs : slots + ms ≤ R.slots) (hst : st.length ≤ 8) {st0 : List PV} (hst0 : st0 = pa.reverse ++ st)
    (kk : ∀ (r : Option PV) (T L : Nat → Nat) (P : Nat → Nat → Option Nat) (I : Nat → Nat → Int) (hn : Nat), post r T L P I hn → RR X Y Q (cells + mc) (slots + ms) (pc + 3) ls (r.toList ++ st) T L P I hn) : RR X Y Q cells slots pc ls st0 T L P I hn := by
  subst hst0
  intro H locs la hH hS hL hV
  have hR : xR X = R := K.2.2.2.2.2.2.2.1
  have hpa : ∀ v ∈ pa, vg v := fun v hv => hV v (List.mem_append_left _ (List.mem_reverse.mpr hv))
  have hVst : ∀ v ∈ st, vg v := fun v hv => hV v (List.mem_append_right _ hv)
  have hpre := PR_at K hH hS hpa
  rw [map_rev]
  have hcs : cells + mc ≤ (xR X).cells ∧ slots + ms ≤ (xR X).slots := by rw [hR]; exact ⟨hc, hs⟩
  rcases hw.1 with hl | hl
  · exact run_go hL hVst (va_runS (As := pa.map (eV Y)) (rest := st.map (eV Y)) (Ts := tbl) ⟨K.1, K.2.1, K.2.2.1, K.2.2.2.1, K.2.2.2.2.1.ts _⟩ (hM (xl X) Y) ⟨cL_B K hw hl hf hlo, K.w hw2 rfl⟩ ⟨PR_blind, hpre⟩ rfl (by simpa using hn') (by rw [← K.2.2.1]; exact hL.1.1) rfl (room_st Y st hst) hd hcs) hS kk
  · exact run_go hL hVst (va_runSN (As := pa.map (eV Y)) (rest := st.map (eV Y)) (Ts := tbl) ⟨K.1, K.2.1, K.2.2.1, K.2.2.2.1, K.2.2.2.2.1.ts _⟩ (hM (xl X) Y) ⟨cL_N K hw hl hf hlo, K.w hw2 rfl, trivial⟩ ⟨PR_blind, hpre⟩ rfl (by simpa using hn') (by rw [← K.2.2.1]; exact hL.1.1) rfl (room_st Y st hst) hd hcs) hS kk
/-- a call of a constructor -/
theorem r_callI (K : OK X Y cc own nL ret R nm) {b n : Nat} (pa : List PV) (hd : decode cc pc = .ok (.invokespecial idx, 3)) (hw : cL own idx y cy ny none n) (hw2 : Cond.instanceMethod y ∈ lw_tbl ∧ y.name = "<init>") (hn' : pa.length = n) (hM : CT y cy ny none fr lo mc ms (.inr (some b) :: pa) T L P I hn post) (hf : fr + 1 ≤ R.frames) (hlo : 19 + ny + lo ≤ R.locals) (hc : cells + mc ≤ R.cells) (hs : slots + ms ≤ R.slots) (hst : st.length ≤ 8) {st0 : List PV} (hst0 : st0 = pa.reverse ++ .inr (some b) :: st)
    (kk : ∀ (r : Option PV) (T L : Nat → Nat) (P : Nat → Nat → Option Nat) (I : Nat → Nat → Int) (hn : Nat), post r T L P I hn → RR X Y Q (cells + mc) (slots + ms) (pc + 3) ls (r.toList ++ st) T L P I hn) : RR X Y Q cells slots pc ls st0 T L P I hn := by
  subst hst0
  intro H locs la hH hS hL hV
  have hR : xR X = R := K.2.2.2.2.2.2.2.1
  have hpa : ∀ v ∈ (.inr (some b) :: pa : List PV), vg v := fun v hv => by
    rcases List.mem_cons.mp hv with h | h
    · rw [h]; trivial
    · exact hV v (List.mem_append_left _ (List.mem_reverse.mpr h))
  have hVst : ∀ v ∈ st, vg v := fun v hv => hV v (List.mem_append_right _ (List.mem_cons_of_mem _ hv))
  have hpre := PR_at K hH hS hpa
  rw [map_rev]
  have hcs : cells + mc ≤ (xR X).cells ∧ slots + ms ≤ (xR X).slots := by rw [hR]; exact ⟨hc, hs⟩
  rcases hw.1 with hl | hl
  · exact run_go hL hVst (va_runI (As := pa.map (eV Y)) (rest := st.map (eV Y)) (Ts := tbl) (b := ad Y b) ⟨K.1, K.2.1, K.2.2.1, K.2.2.2.1, K.2.2.2.2.1.ts _⟩ (hM (xl X) Y) ⟨cL_B K hw hl hf hlo, hw2.2, K.w hw2.1 rfl⟩ ⟨PR_blind, hpre⟩ rfl (by simpa using hn') (by rw [← K.2.2.1]; exact hL.1.1) rfl (room_st Y st hst) hd hcs) hS kk
  · exact run_go hL hVst (va_runIN (As := pa.map (eV Y)) (rest := st.map (eV Y)) (Ts := tbl) (b := ad Y b) ⟨K.1, K.2.1, K.2.2.1, K.2.2.2.1, K.2.2.2.2.1.ts _⟩ (hM (xl X) Y) ⟨cL_N K hw hl hf hlo, hw2.2, K.w hw2.1 rfl⟩ ⟨PR_blind, hpre⟩ rfl (by simpa using hn') (by rw [← K.2.2.1]; exact hL.1.1) rfl (room_st Y st hst) hd hcs) hS kk
/-- Object's constructor -/
theorem r_obj (K : OK X Y cc own nL ret R nm) {b : Nat} (hd : decode cc pc = .ok (.invokespecial idx, 3)) (hw : Cond.methodLink own idx objectInit ∈ lw_tbl) (hf : 1 ≤ R.frames) (hlo : st.length + 12 ≤ R.locals) (kk : RR X Y Q cells slots (pc + 3) ls st T L P I hn) : RR X Y Q cells slots pc ls (.inr (some b) :: st) T L P I hn := by
  intro H locs la hH hS hL hV
  have hR : xR X = R := K.2.2.2.2.2.2.2.1
  refine W.objInit K.1 K.2.1 K.2.2.2.1 (K.w hw rfl) (K.w (by decide +kernel) rfl) (K.w (by decide +kernel) rfl) rfl (by exact hL.1.1) rfl hd (by rw [hR]; exact hf) ?_ (kk H locs la hH hS hL (vtail hV))
  rw [hR]
  show 2 * 0 + _ + 12 ≤ _
  rw [st_sum]; omega
end CALLS
end
section
section CPY
variable {X : Cx} {Y : SY} {Q : State → Prop} {cells slots pc : Nat} {ls : List (Option PV)} {st : List PV} {T L : Nat → Nat} {P : Nat → Nat → Option Nat} {I : Nat → Nat → Int} {hn : Nat} {cc : ByteArray} {own : String} {nL : Nat} {ret : Option FieldType} {R : Room} {nm : String}
/-- a row of the memory is replaced -/
def mR (I : Nat → Nat → Int) (a : Nat) (f : Nat → Int) : Nat → Nat → Int := fun b => if b = a then f else I b
theorem mR_eq {I : Nat → Nat → Int} {a : Nat} {f : Nat → Int} : mR I a f a = f := by simp [mR]
theorem mR_ne {I : Nat → Nat → Int} {a b : Nat} {f : Nat → Int} (h : b ≠ a) : mR I a f b = I b := by simp [mR, h]
/-- System.arraycopy between two different arrays of ints, from their beginnings -/
theorem r_copy (K : OK X Y cc own nL ret R nm) {a b idx : Nat} {n : Int} (hd : decode cc pc = .ok (.invokestatic idx, 3)) (hw : Cond.methodLink own idx arraycopyName ∈ lw_tbl) (hTa : T a = 10) (hTb : T b = 10) (h0 : 0 ≤ n) (h1 : n ≤ L a) (h2 : n ≤ L b) (hf : 1 ≤ R.frames) (hlo : st.length + 18 ≤ R.locals)
    (kk : RR X Y Q cells slots (pc + 3) ls st T L P (mR I b (fun j => if j < n.toNat then I a j else I b j)) hn) : RR X Y Q cells slots pc ls (.inl n :: .inl 0 :: .inr (some b) :: .inl 0 :: .inr (some a) :: st) T L P I hn := by
  intro H locs la hH hS hL hV
  have hR : xR X = R := K.2.2.2.2.2.2.2.1
  have hn1 := vh hV
  have h3 : 3 ≤ b := hH.ge (by omega)
  have hVst := vtail (vtail (vtail (vtail (vtail hV))))
  have hc0 := hH.arr hTa (by decide) (by decide)
  have hc1 := hH.arr hTb (by decide) (by decide)
  obtain ⟨-, k0, hk0, cm0, hkk0⟩ := (K.2.2.2.2.1.1.2 0 _ rfl).1 (L a) (fun j => .int (Int32.ofInt (I a j)))
  intro U hU Z
  obtain ⟨vm', Z', step⟩ := Z.arraycopy K.1 K.2.2.2.1 (K.w hw rfl) (K.w (by decide +kernel) rfl) (K.w (by decide +kernel) rfl) (K.w (by decide +kernel) rfl) (src := ad Y a) (dst := ad Y b) (cs := vp_cell (yC Y 10) (L a, .inl (fun j => Int32.ofInt (I a j)))) (cd := vp_cell (yC Y 10) (L b, .inl (fun j => Int32.ofInt (I b j)))) (srcPos := Int32.ofInt 0) (destPos := Int32.ofInt 0) (n := Int32.ofInt n) (by rw [hU]; exact hc0) (by rw [hU]; exact hc1)
    (fun _ h => by cases h) (fun _ h => by cases h) (fun h => by cases h) (fun h => by cases h) hk0 hk0 hkk0 hkk0 rfl (by decide) (by decide) (by rw [← oi_0, oi_lt hn1 rg0]; omega)
    (by rw [oi_toInt rg0, oi_toInt hn1]; show ¬ _ > ((arrV _ (L a) _).slots.size : Int); rw [arrV_size]; omega)
    (by rw [oi_toInt rg0, oi_toInt hn1]; show ¬ _ > ((arrV _ (L b) _).slots.size : Int); rw [arrV_size]; omega)
    (fun vm₁ _ i hi => by
      rw [oi_cl hn1] at hi
      have e : (vp_cell (yC Y 10) (L a, .inl (fun j => Int32.ofInt (I a j)))).slots.getD ((Int32.ofInt 0).toNatClampNeg + i) .null = .int (Int32.ofInt (I a i)) := by
        rw [oi_cl rg0]
        show (arrV _ (L a) (fun j => .int (Int32.ofInt (I a j)))).slots.getD _ _ = _
        rw [Array.getD_eq_getD_getElem?, arrV_read _ _ (by simp; omega)]
        simp
      rw [e]
      exact ⟨rfl, trivial⟩)
    (g := F0 (xm X) pc la (((.inl n :: .inl 0 :: .inr (some b) :: .inl 0 :: .inr (some a) :: st) : List PV).map (eV Y))) rfl hL.1.1 (rest := st.map (eV Y)) rfl (by rw [K.2.1]; exact hd) (by rw [hR]; exact hf) (by show 2 * 0 + _ + (7 + 11) ≤ _; rw [hR, st_sum]; omega)
  have e1 : copied (vp_cell (yC Y 10) (L a, .inl (fun j => Int32.ofInt (I a j)))) (vp_cell (yC Y 10) (L b, .inl (fun j => Int32.ofInt (I b j)))) (Int32.ofInt 0) (Int32.ofInt 0) (Int32.ofInt n) = vp_cell (yC Y 10) (L b, .inl (fun j => Int32.ofInt (mR I b (fun j => if j < n.toNat then I a j else I b j) b j))) := by
    refine (va_copied (fun z => .int z) (yC Y 10) (yC Y 10) (fun j => Int32.ofInt (I a j)) (fun j => Int32.ofInt (I b j)) (by rw [oi_cl rg0, oi_cl hn1]; simp; omega)).trans ?_
    rw [vp_cell_i]
    congr 2
    funext j
    rw [oi_cl rg0, oi_cl hn1, mR_eq]
    simp only [va_cpy]
    by_cases h : j < n.toNat
    · rw [if_pos h, if_pos (by simp; omega)]; simp
    · rw [if_neg h, if_neg (by simp; omega)]
  rw [e1] at Z' step
  have hl : ad Y b < H.size := (Array.getElem?_eq_some_iff.mp hc1).1
  generalize hcell : vp_cell (yC Y 10) (L b, .inl (fun j => Int32.ofInt (mR I b (fun j => if j < n.toNat then I a j else I b j) b j))) = cell at Z' step e1
  have hheap : ((U.setVm vm').setCell (ad Y b) cell).heap = H.setIfInBounds (ad Y b) cell := by rw [← hU]; rfl
  have oq : ∀ q : Nat, q ≠ ad Y b → (H.setIfInBounds (ad Y b) cell)[q]? = H[q]? := fun q hq => by simp [Array.getElem?_setIfInBounds, Ne.symm hq]
  have hsz : (H.setIfInBounds (ad Y b) cell).size = H.size := by simp
  obtain ⟨t, a1, b1⟩ := kk _ _ la (hH.upd h3 hsz oq (fun j hj => mR_ne hj) (fun _ _ => rfl) (fun i => by
      rw [mR_eq]
      show rg (if i < n.toNat then I a i else I b i)
      split
      · exact hH.2.2.2.2.1 _ _
      · exact hH.2.2.2.2.1 _ _) (by
      rw [cE_arr hTb (by decide) (by decide)]
      show (H.setIfInBounds (ad Y b) cell)[ad Y b]? = some (vp_cell _ _)
      rw [hcell]
      simp [Array.getElem?_setIfInBounds, hl])) ⟨by rw [hsz]; exact hS.1, fun q g1 g2 => by
      rw [oq q (fun e => g2 (by rw [e]; exact yA_hi h3))]
      exact hS.2.1 q g1 g2, fun q hq => by
      rcases List.mem_append.mp hq with h | h
      · exact hS.2.2 q h
      · obtain ⟨z, -, hz⟩ := List.mem_map.mp h
        rw [← hz]
        exact yA_hi h3⟩ hL hVst _ hheap Z'
  exact ⟨t, step t a1, b1⟩
end CPY
end
