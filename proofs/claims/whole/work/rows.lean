section
-- ===== PART A: goes FIRST, ahead of the names: the tables' words, and 'selects' of the private methods out of them =====
/-- a private method of a class that the tables say can be made, by its rows of tables_1 -/
def lw_okq (q : MethodName × Nat) : Prop := (q.1.cls ≠ "java/lang/invoke/MethodHandle" ∧ q.1.cls ≠ "java/lang/invoke/VarHandle") ∧ Cond.instantiable q.1.cls q.2 ∈ tables_1 ∧ Cond.privateMethod q.1 ∈ tables_1 ∧ Cond.instanceMethod q.1 ∈ tables_1
theorem lw_p0 : lw_okq (⟨"PatchBench$Planner", "findRuns", "(LPatchBench$Bytes;LPatchBench$Bytes;I)V"⟩, 11) := ⟨⟨by decide +kernel, by decide +kernel⟩, List.mem_of_getElem? (i := 56) (by decide +kernel), List.mem_of_getElem? (i := 337) (by decide +kernel), List.mem_of_getElem? (i := 338) (by decide +kernel)⟩
theorem lw_p1 : lw_okq (⟨"PatchBench$Planner", "chooseStep", "(II)V"⟩, 11) := ⟨⟨by decide +kernel, by decide +kernel⟩, List.mem_of_getElem? (i := 56) (by decide +kernel), List.mem_of_getElem? (i := 341) (by decide +kernel), List.mem_of_getElem? (i := 342) (by decide +kernel)⟩
theorem lw_p2 : lw_okq (⟨"PatchBench$Planner", "tryStep", "(IIIII)V"⟩, 11) := ⟨⟨by decide +kernel, by decide +kernel⟩, List.mem_of_getElem? (i := 56) (by decide +kernel), List.mem_of_getElem? (i := 347) (by decide +kernel), List.mem_of_getElem? (i := 348) (by decide +kernel)⟩
theorem lw_p3 : lw_okq (⟨"PatchBench$Trace", "addedFrom", "(I)I"⟩, 4) := ⟨⟨by decide +kernel, by decide +kernel⟩, List.mem_of_getElem? (i := 111) (by decide +kernel), List.mem_of_getElem? (i := 390) (by decide +kernel), List.mem_of_getElem? (i := 391) (by decide +kernel)⟩
theorem lw_p4 : lw_okq (⟨"PatchBench$Trace", "alikeFrom", "(I)I"⟩, 4) := ⟨⟨by decide +kernel, by decide +kernel⟩, List.mem_of_getElem? (i := 111) (by decide +kernel), List.mem_of_getElem? (i := 394) (by decide +kernel), List.mem_of_getElem? (i := 395) (by decide +kernel)⟩
theorem lw_p5 : lw_okq (⟨"PatchBench$Trace", "comesTooLate", "(III)Z"⟩, 4) := ⟨⟨by decide +kernel, by decide +kernel⟩, List.mem_of_getElem? (i := 111) (by decide +kernel), List.mem_of_getElem? (i := 411) (by decide +kernel), List.mem_of_getElem? (i := 412) (by decide +kernel)⟩
theorem lw_p6 : lw_okq (⟨"PatchBench$Device", "endUpdate", "()V"⟩, 11) := ⟨⟨by decide +kernel, by decide +kernel⟩, List.mem_of_getElem? (i := 166) (by decide +kernel), List.mem_of_getElem? (i := 425) (by decide +kernel), List.mem_of_getElem? (i := 426) (by decide +kernel)⟩
theorem lw_p7 : lw_okq (⟨"PatchBench$Device", "allWrites", "()I"⟩, 11) := ⟨⟨by decide +kernel, by decide +kernel⟩, List.mem_of_getElem? (i := 166) (by decide +kernel), List.mem_of_getElem? (i := 456) (by decide +kernel), List.mem_of_getElem? (i := 457) (by decide +kernel)⟩
theorem lw_p8 : lw_okq (⟨"PatchBench$Device", "makeNextWrite", "()V"⟩, 11) := ⟨⟨by decide +kernel, by decide +kernel⟩, List.mem_of_getElem? (i := 166) (by decide +kernel), List.mem_of_getElem? (i := 468) (by decide +kernel), List.mem_of_getElem? (i := 469) (by decide +kernel)⟩
theorem lw_p9 : lw_okq (⟨"PatchBench$Device", "writeNewByte", "(I)V"⟩, 11) := ⟨⟨by decide +kernel, by decide +kernel⟩, List.mem_of_getElem? (i := 166) (by decide +kernel), List.mem_of_getElem? (i := 472) (by decide +kernel), List.mem_of_getElem? (i := 473) (by decide +kernel)⟩
theorem lw_p10 : lw_okq (⟨"PatchBench$Device", "oldByte", "(I)I"⟩, 11) := ⟨⟨by decide +kernel, by decide +kernel⟩, List.mem_of_getElem? (i := 166) (by decide +kernel), List.mem_of_getElem? (i := 476) (by decide +kernel), List.mem_of_getElem? (i := 477) (by decide +kernel)⟩
theorem lw_p11 : lw_okq (⟨"PatchBench$Fleet", "chooseOfSize", "(I)V"⟩, 8) := ⟨⟨by decide +kernel, by decide +kernel⟩, List.mem_of_getElem? (i := 212) (by decide +kernel), List.mem_of_getElem? (i := 557) (by decide +kernel), List.mem_of_getElem? (i := 558) (by decide +kernel)⟩
theorem lw_p12 : lw_okq (⟨"PatchBench$Fleet", "consider", "(I)V"⟩, 8) := ⟨⟨by decide +kernel, by decide +kernel⟩, List.mem_of_getElem? (i := 212) (by decide +kernel), List.mem_of_getElem? (i := 561) (by decide +kernel), List.mem_of_getElem? (i := 562) (by decide +kernel)⟩
theorem lw_p13 : lw_okq (⟨"PatchBenchModel", "four", "(I)V"⟩, 41) := ⟨⟨by decide +kernel, by decide +kernel⟩, List.mem_of_getElem? (i := 571) (by decide +kernel), List.mem_of_getElem? (i := 706) (by decide +kernel), List.mem_of_getElem? (i := 707) (by decide +kernel)⟩
theorem lw_p14 : lw_okq (⟨"PatchBenchModel", "isVersion", "(I)Z"⟩, 41) := ⟨⟨by decide +kernel, by decide +kernel⟩, List.mem_of_getElem? (i := 571) (by decide +kernel), List.mem_of_getElem? (i := 722) (by decide +kernel), List.mem_of_getElem? (i := 723) (by decide +kernel)⟩
theorem lw_p15 : lw_okq (⟨"PatchBenchModel", "byteOf", "(II)I"⟩, 41) := ⟨⟨by decide +kernel, by decide +kernel⟩, List.mem_of_getElem? (i := 571) (by decide +kernel), List.mem_of_getElem? (i := 726) (by decide +kernel), List.mem_of_getElem? (i := 727) (by decide +kernel)⟩
def lw_privs_1 : List (MethodName × Nat) := [(⟨"PatchBench$Planner", "findRuns", "(LPatchBench$Bytes;LPatchBench$Bytes;I)V"⟩, 11), (⟨"PatchBench$Planner", "chooseStep", "(II)V"⟩, 11), (⟨"PatchBench$Planner", "tryStep", "(IIIII)V"⟩, 11), (⟨"PatchBench$Trace", "addedFrom", "(I)I"⟩, 4), (⟨"PatchBench$Trace", "alikeFrom", "(I)I"⟩, 4), (⟨"PatchBench$Trace", "comesTooLate", "(III)Z"⟩, 4), (⟨"PatchBench$Device", "endUpdate", "()V"⟩, 11), (⟨"PatchBench$Device", "allWrites", "()I"⟩, 11), (⟨"PatchBench$Device", "makeNextWrite", "()V"⟩, 11), (⟨"PatchBench$Device", "writeNewByte", "(I)V"⟩, 11), (⟨"PatchBench$Device", "oldByte", "(I)I"⟩, 11), (⟨"PatchBench$Fleet", "chooseOfSize", "(I)V"⟩, 8), (⟨"PatchBench$Fleet", "consider", "(I)V"⟩, 8), (⟨"PatchBenchModel", "four", "(I)V"⟩, 41), (⟨"PatchBenchModel", "isVersion", "(I)Z"⟩, 41), (⟨"PatchBenchModel", "byteOf", "(II)I"⟩, 41)]
theorem lw_r1 : ∀ q ∈ lw_privs_1, lw_okq q := List.forall_mem_cons.mpr ⟨lw_p0, List.forall_mem_cons.mpr ⟨lw_p1, List.forall_mem_cons.mpr ⟨lw_p2, List.forall_mem_cons.mpr ⟨lw_p3, List.forall_mem_cons.mpr ⟨lw_p4, List.forall_mem_cons.mpr ⟨lw_p5, List.forall_mem_cons.mpr ⟨lw_p6, List.forall_mem_cons.mpr ⟨lw_p7, List.forall_mem_cons.mpr ⟨lw_p8, List.forall_mem_cons.mpr ⟨lw_p9, List.forall_mem_cons.mpr ⟨lw_p10, List.forall_mem_cons.mpr ⟨lw_p11, List.forall_mem_cons.mpr ⟨lw_p12, List.forall_mem_cons.mpr ⟨lw_p13, List.forall_mem_cons.mpr ⟨lw_p14, List.forall_mem_cons.mpr ⟨lw_p15, fun _ h => absurd h List.not_mem_nil⟩⟩⟩⟩⟩⟩⟩⟩⟩⟩⟩⟩⟩⟩⟩⟩
theorem lw_p16 : lw_okq (⟨"PatchBenchModel", "makes", "(II)V"⟩, 41) := ⟨⟨by decide +kernel, by decide +kernel⟩, List.mem_of_getElem? (i := 571) (by decide +kernel), List.mem_of_getElem? (i := 742) (by decide +kernel), List.mem_of_getElem? (i := 743) (by decide +kernel)⟩
theorem lw_p17 : lw_okq (⟨"PatchBenchModel", "apart", "(IIII)I"⟩, 41) := ⟨⟨by decide +kernel, by decide +kernel⟩, List.mem_of_getElem? (i := 571) (by decide +kernel), List.mem_of_getElem? (i := 746) (by decide +kernel), List.mem_of_getElem? (i := 747) (by decide +kernel)⟩
theorem lw_p18 : lw_okq (⟨"PatchBenchModel", "runAt", "(II)I"⟩, 41) := ⟨⟨by decide +kernel, by decide +kernel⟩, List.mem_of_getElem? (i := 571) (by decide +kernel), List.mem_of_getElem? (i := 750) (by decide +kernel), List.mem_of_getElem? (i := 751) (by decide +kernel)⟩
theorem lw_p19 : lw_okq (⟨"PatchBenchModel", "takes", "(IIII)Z"⟩, 41) := ⟨⟨by decide +kernel, by decide +kernel⟩, List.mem_of_getElem? (i := 571) (by decide +kernel), List.mem_of_getElem? (i := 756) (by decide +kernel), List.mem_of_getElem? (i := 757) (by decide +kernel)⟩
theorem lw_p20 : lw_okq (⟨"PatchBenchModel", "adds", "(II)V"⟩, 41) := ⟨⟨by decide +kernel, by decide +kernel⟩, List.mem_of_getElem? (i := 571) (by decide +kernel), List.mem_of_getElem? (i := 760) (by decide +kernel), List.mem_of_getElem? (i := 761) (by decide +kernel)⟩
theorem lw_p21 : lw_okq (⟨"PatchBenchModel", "keeps", "(IZ)I"⟩, 41) := ⟨⟨by decide +kernel, by decide +kernel⟩, List.mem_of_getElem? (i := 571) (by decide +kernel), List.mem_of_getElem? (i := 780) (by decide +kernel), List.mem_of_getElem? (i := 781) (by decide +kernel)⟩
theorem lw_p22 : lw_okq (⟨"PatchBenchModel", "checkOfArea", "()I"⟩, 41) := ⟨⟨by decide +kernel, by decide +kernel⟩, List.mem_of_getElem? (i := 571) (by decide +kernel), List.mem_of_getElem? (i := 792) (by decide +kernel), List.mem_of_getElem? (i := 793) (by decide +kernel)⟩
theorem lw_p23 : lw_okq (⟨"PatchBenchModel", "allWrites", "()I"⟩, 41) := ⟨⟨by decide +kernel, by decide +kernel⟩, List.mem_of_getElem? (i := 571) (by decide +kernel), List.mem_of_getElem? (i := 797) (by decide +kernel), List.mem_of_getElem? (i := 798) (by decide +kernel)⟩
theorem lw_p24 : lw_okq (⟨"PatchBenchModel", "writeOne", "(I)V"⟩, 41) := ⟨⟨by decide +kernel, by decide +kernel⟩, List.mem_of_getElem? (i := 571) (by decide +kernel), List.mem_of_getElem? (i := 805) (by decide +kernel), List.mem_of_getElem? (i := 806) (by decide +kernel)⟩
theorem lw_p25 : lw_okq (⟨"PatchBenchModel", "greatest", "()I"⟩, 41) := ⟨⟨by decide +kernel, by decide +kernel⟩, List.mem_of_getElem? (i := 571) (by decide +kernel), List.mem_of_getElem? (i := 836) (by decide +kernel), List.mem_of_getElem? (i := 837) (by decide +kernel)⟩
theorem lw_p26 : lw_okq (⟨"PatchBenchModel", "pairCosts", "()V"⟩, 41) := ⟨⟨by decide +kernel, by decide +kernel⟩, List.mem_of_getElem? (i := 571) (by decide +kernel), List.mem_of_getElem? (i := 840) (by decide +kernel), List.mem_of_getElem? (i := 841) (by decide +kernel)⟩
theorem lw_p27 : lw_okq (⟨"PatchBenchModel", "sentBy", "(I)I"⟩, 41) := ⟨⟨by decide +kernel, by decide +kernel⟩, List.mem_of_getElem? (i := 571) (by decide +kernel), List.mem_of_getElem? (i := 845) (by decide +kernel), List.mem_of_getElem? (i := 846) (by decide +kernel)⟩
def lw_privs_2 : List (MethodName × Nat) := [(⟨"PatchBenchModel", "makes", "(II)V"⟩, 41), (⟨"PatchBenchModel", "apart", "(IIII)I"⟩, 41), (⟨"PatchBenchModel", "runAt", "(II)I"⟩, 41), (⟨"PatchBenchModel", "takes", "(IIII)Z"⟩, 41), (⟨"PatchBenchModel", "adds", "(II)V"⟩, 41), (⟨"PatchBenchModel", "keeps", "(IZ)I"⟩, 41), (⟨"PatchBenchModel", "checkOfArea", "()I"⟩, 41), (⟨"PatchBenchModel", "allWrites", "()I"⟩, 41), (⟨"PatchBenchModel", "writeOne", "(I)V"⟩, 41), (⟨"PatchBenchModel", "greatest", "()I"⟩, 41), (⟨"PatchBenchModel", "pairCosts", "()V"⟩, 41), (⟨"PatchBenchModel", "sentBy", "(I)I"⟩, 41)]
theorem lw_r2 : ∀ q ∈ lw_privs_2, lw_okq q := List.forall_mem_cons.mpr ⟨lw_p16, List.forall_mem_cons.mpr ⟨lw_p17, List.forall_mem_cons.mpr ⟨lw_p18, List.forall_mem_cons.mpr ⟨lw_p19, List.forall_mem_cons.mpr ⟨lw_p20, List.forall_mem_cons.mpr ⟨lw_p21, List.forall_mem_cons.mpr ⟨lw_p22, List.forall_mem_cons.mpr ⟨lw_p23, List.forall_mem_cons.mpr ⟨lw_p24, List.forall_mem_cons.mpr ⟨lw_p25, List.forall_mem_cons.mpr ⟨lw_p26, List.forall_mem_cons.mpr ⟨lw_p27, fun _ h => absurd h List.not_mem_nil⟩⟩⟩⟩⟩⟩⟩⟩⟩⟩⟩⟩
def lw_privs : List (MethodName × Nat) := lw_privs_1 ++ (lw_privs_2)
def lw_tbl : List Cond := k2_sels lw_privs ++ tables_1
theorem lw_privs_ok : ∀ q ∈ lw_privs, lw_okq q := by
  show ∀ q ∈ lw_privs_1 ++ (lw_privs_2), lw_okq q
  exact List.forall_mem_append.mpr ⟨lw_r1, lw_r2⟩
end
section
def RX0 : String := "PatchBench$Bytes"
def TX0 : u_T := fun k => match k with
  | 0 => ("PatchBench$Bytes", "values", "[I", true)
  | _ => ("PatchBench$Bytes", "count", "I", false)
def tyX0 : Nat → FieldType := fun k => match k with
  | 0 => .array .int
  | _ => .int
abbrev wsX00 : List Cond := u_ws RX0 TX0 2
theorem nmX0 : ∀ a, a < 2 → ∀ b, b < 2 → a ≠ b → (TX0 a).2.1 ≠ (TX0 b).2.1 := by decide +kernel
theorem tyX0_ok : ∀ k, k < 2 → parseFieldDescriptor (TX0 k).2.2.1 = some (tyX0 k) := by decide +kernel
abbrev cX0_init : ByteArray := prog_2_method_1_code
def yX0_init : MethodName := ⟨RX0, "<init>", "(I)V"⟩
abbrev cX0_at : ByteArray := prog_2_method_2_code
def yX0_at : MethodName := ⟨RX0, "at", "(I)I"⟩
abbrev cX0_appendFour : ByteArray := prog_2_method_3_code
def yX0_appendFour : MethodName := ⟨RX0, "appendFour", "(I)V"⟩
abbrev cX0_takeFirst : ByteArray := prog_2_method_4_code
def yX0_takeFirst : MethodName := ⟨RX0, "takeFirst", "(LPatchBench$Bytes;I)V"⟩
abbrev cX0_checksum : ByteArray := prog_2_method_5_code
def yX0_checksum : MethodName := ⟨RX0, "checksum", "()I"⟩
def RX1 : String := "PatchBench$Device"
def TX1 : u_T := fun k => match k with
  | 0 => ("PatchBench$Device", "area", "LPatchBench$Bytes;", true)
  | 1 => ("PatchBench$Device", "plan", "LPatchBench$Trace;", true)
  | 2 => ("PatchBench$Device", "toKeep", "[I", true)
  | 3 => ("PatchBench$Device", "aside", "[I", true)
  | 4 => ("PatchBench$Device", "toKeepCount", "I", false)
  | 5 => ("PatchBench$Device", "way", "I", false)
  | 6 => ("PatchBench$Device", "nextWrite", "I", false)
  | 7 => ("PatchBench$Device", "mark", "I", false)
  | 8 => ("PatchBench$Device", "writesEver", "I", false)
  | 9 => ("PatchBench$Device", "begun", "Z", false)
  | _ => ("PatchBench$Device", "unpowered", "Z", false)
def tyX1 : Nat → FieldType := fun k => match k with
  | 0 => .object "PatchBench$Bytes"
  | 1 => .object "PatchBench$Trace"
  | 2 => .array .int
  | 3 => .array .int
  | 4 => .int
  | 5 => .int
  | 6 => .int
  | 7 => .int
  | 8 => .int
  | 9 => .boolean
  | _ => .boolean
abbrev wsX10 : List Cond := u_ws RX1 TX1 11
theorem nmX1 : ∀ a, a < 11 → ∀ b, b < 11 → a ≠ b → (TX1 a).2.1 ≠ (TX1 b).2.1 := by decide +kernel
theorem tyX1_ok : ∀ k, k < 11 → parseFieldDescriptor (TX1 k).2.2.1 = some (tyX1 k) := by decide +kernel
abbrev cX1_init : ByteArray := prog_3_method_1_code
def yX1_init : MethodName := ⟨RX1, "<init>", "()V"⟩
abbrev cX1_load : ByteArray := prog_3_method_2_code
def yX1_load : MethodName := ⟨RX1, "load", "(LPatchBench$Bytes;)V"⟩
abbrev cX1_fits : ByteArray := prog_3_method_3_code
def yX1_fits : MethodName := ⟨RX1, "fits", "(LPatchBench$Bytes;)Z"⟩
abbrev cX1_begin : ByteArray := prog_3_method_4_code
def yX1_begin : MethodName := ⟨RX1, "begin", "(LPatchBench$Trace;)V"⟩
abbrev cX1_endUpdate : ByteArray := prog_3_method_5_code
def yX1_endUpdate : MethodName := ⟨RX1, "endUpdate", "()V"⟩
abbrev cX1_allWrites : ByteArray := prog_3_method_6_code
def yX1_allWrites : MethodName := ⟨RX1, "allWrites", "()I"⟩
abbrev cX1_writesLeft : ByteArray := prog_3_method_7_code
def yX1_writesLeft : MethodName := ⟨RX1, "writesLeft", "()I"⟩
abbrev cX1_makeWrites : ByteArray := prog_3_method_8_code
def yX1_makeWrites : MethodName := ⟨RX1, "makeWrites", "(I)I"⟩
abbrev cX1_makeNextWrite : ByteArray := prog_3_method_9_code
def yX1_makeNextWrite : MethodName := ⟨RX1, "makeNextWrite", "()V"⟩
abbrev cX1_writeNewByte : ByteArray := prog_3_method_10_code
def yX1_writeNewByte : MethodName := ⟨RX1, "writeNewByte", "(I)V"⟩
abbrev cX1_oldByte : ByteArray := prog_3_method_11_code
def yX1_oldByte : MethodName := ⟨RX1, "oldByte", "(I)I"⟩
abbrev cX1_resume : ByteArray := prog_3_method_12_code
def yX1_resume : MethodName := ⟨RX1, "resume", "()V"⟩
abbrev cX1_tell : ByteArray := prog_3_method_13_code
def yX1_tell : MethodName := ⟨RX1, "tell", "(I)I"⟩
abbrev cX1_areaByte : ByteArray := prog_3_method_14_code
def yX1_areaByte : MethodName := ⟨RX1, "areaByte", "(I)I"⟩
def RX2 : String := "PatchBench$Fleet"
def TX2 : u_T := fun k => match k with
  | 0 => ("PatchBench$Fleet", "devices", "[I", true)
  | 1 => ("PatchBench$Fleet", "prices", "[I", true)
  | 2 => ("PatchBench$Fleet", "ways", "[I", true)
  | 3 => ("PatchBench$Fleet", "heldPairs", "I", false)
  | 4 => ("PatchBench$Fleet", "goal", "I", false)
  | 5 => ("PatchBench$Fleet", "wholePrice", "I", false)
  | 6 => ("PatchBench$Fleet", "leastSent", "I", false)
  | _ => ("PatchBench$Fleet", "bestPairs", "I", false)
def tyX2 : Nat → FieldType := fun k => match k with
  | 0 => .array .int
  | 1 => .array .int
  | 2 => .array .int
  | 3 => .int
  | 4 => .int
  | 5 => .int
  | 6 => .int
  | _ => .int
abbrev wsX20 : List Cond := u_ws RX2 TX2 8
theorem nmX2 : ∀ a, a < 8 → ∀ b, b < 8 → a ≠ b → (TX2 a).2.1 ≠ (TX2 b).2.1 := by decide +kernel
theorem tyX2_ok : ∀ k, k < 8 → parseFieldDescriptor (TX2 k).2.2.1 = some (tyX2 k) := by decide +kernel
abbrev cX2_init : ByteArray := prog_4_method_1_code
def yX2_init : MethodName := ⟨RX2, "<init>", "()V"⟩
abbrev cX2_setDevices : ByteArray := prog_4_method_2_code
def yX2_setDevices : MethodName := ⟨RX2, "setDevices", "(II)V"⟩
abbrev cX2_holdPair : ByteArray := prog_4_method_3_code
def yX2_holdPair : MethodName := ⟨RX2, "holdPair", "(IIZ)Z"⟩
abbrev cX2_bitOf : ByteArray := prog_4_method_4_code
def yX2_bitOf : MethodName := ⟨RX2, "bitOf", "(II)I"⟩
abbrev cX2_learnPrices : ByteArray := prog_4_method_5_code
def yX2_learnPrices : MethodName := ⟨RX2, "learnPrices", "(LPatchBench$Shelf;I)V"⟩
abbrev cX2_sentWith : ByteArray := prog_4_method_6_code
def yX2_sentWith : MethodName := ⟨RX2, "sentWith", "(I)I"⟩
abbrev cX2_choose : ByteArray := prog_4_method_7_code
def yX2_choose : MethodName := ⟨RX2, "choose", "(I)V"⟩
abbrev cX2_chooseOfSize : ByteArray := prog_4_method_8_code
def yX2_chooseOfSize : MethodName := ⟨RX2, "chooseOfSize", "(I)V"⟩
abbrev cX2_consider : ByteArray := prog_4_method_9_code
def yX2_consider : MethodName := ⟨RX2, "consider", "(I)V"⟩
def RX3 : String := "PatchBench$Patch"
def TX3 : u_T := fun k => match k with
  | 0 => ("PatchBench$Patch", "kinds", "[I", true)
  | 1 => ("PatchBench$Patch", "lengths", "[I", true)
  | 2 => ("PatchBench$Patch", "places", "[I", true)
  | 3 => ("PatchBench$Patch", "shifts", "[I", true)
  | 4 => ("PatchBench$Patch", "steps", "I", false)
  | _ => ("PatchBench$Patch", "price", "I", false)
def tyX3 : Nat → FieldType := fun k => match k with
  | 0 => .array .int
  | 1 => .array .int
  | 2 => .array .int
  | 3 => .array .int
  | 4 => .int
  | _ => .int
abbrev wsX30 : List Cond := u_ws RX3 TX3 6
theorem nmX3 : ∀ a, a < 6 → ∀ b, b < 6 → a ≠ b → (TX3 a).2.1 ≠ (TX3 b).2.1 := by decide +kernel
theorem tyX3_ok : ∀ k, k < 6 → parseFieldDescriptor (TX3 k).2.2.1 = some (tyX3 k) := by decide +kernel
abbrev cX3_init : ByteArray := prog_5_method_1_code
def yX3_init : MethodName := ⟨RX3, "<init>", "()V"⟩
abbrev cX3_clear : ByteArray := prog_5_method_2_code
def yX3_clear : MethodName := ⟨RX3, "clear", "()V"⟩
abbrev cX3_append : ByteArray := prog_5_method_3_code
def yX3_append : MethodName := ⟨RX3, "append", "(IIII)V"⟩
abbrev cX3_tell : ByteArray := prog_5_method_4_code
def yX3_tell : MethodName := ⟨RX3, "tell", "(II)I"⟩
def RX4 : String := "PatchBench$Planner"
def TX4 : u_T := fun k => match k with
  | 0 => ("PatchBench$Planner", "runs", "[I", true)
  | 1 => ("PatchBench$Planner", "gaps", "[I", true)
  | 2 => ("PatchBench$Planner", "least", "[I", true)
  | 3 => ("PatchBench$Planner", "kinds", "[I", true)
  | 4 => ("PatchBench$Planner", "lengths", "[I", true)
  | 5 => ("PatchBench$Planner", "places", "[I", true)
  | 6 => ("PatchBench$Planner", "shifts", "[I", true)
  | 7 => ("PatchBench$Planner", "copyRun", "I", false)
  | 8 => ("PatchBench$Planner", "copyFrom", "I", false)
  | 9 => ("PatchBench$Planner", "shiftRun", "I", false)
  | _ => ("PatchBench$Planner", "shiftFrom", "I", false)
def tyX4 : Nat → FieldType := fun k => match k with
  | 0 => .array .int
  | 1 => .array .int
  | 2 => .array .int
  | 3 => .array .int
  | 4 => .array .int
  | 5 => .array .int
  | 6 => .array .int
  | 7 => .int
  | 8 => .int
  | 9 => .int
  | _ => .int
abbrev wsX40 : List Cond := u_ws RX4 TX4 11
theorem nmX4 : ∀ a, a < 11 → ∀ b, b < 11 → a ≠ b → (TX4 a).2.1 ≠ (TX4 b).2.1 := by decide +kernel
theorem tyX4_ok : ∀ k, k < 11 → parseFieldDescriptor (TX4 k).2.2.1 = some (tyX4 k) := by decide +kernel
abbrev cX4_init : ByteArray := prog_6_method_1_code
def yX4_init : MethodName := ⟨RX4, "<init>", "()V"⟩
abbrev cX4_plan : ByteArray := prog_6_method_2_code
def yX4_plan : MethodName := ⟨RX4, "plan", "(LPatchBench$Bytes;LPatchBench$Bytes;LPatchBench$Patch;)V"⟩
abbrev cX4_findRuns : ByteArray := prog_6_method_3_code
def yX4_findRuns : MethodName := ⟨RX4, "findRuns", "(LPatchBench$Bytes;LPatchBench$Bytes;I)V"⟩
abbrev cX4_chooseStep : ByteArray := prog_6_method_4_code
def yX4_chooseStep : MethodName := ⟨RX4, "chooseStep", "(II)V"⟩
abbrev cX4_tryStep : ByteArray := prog_6_method_5_code
def yX4_tryStep : MethodName := ⟨RX4, "tryStep", "(IIIII)V"⟩
def RX5 : String := "PatchBench$Shelf"
def TX5 : u_T := fun k => match k with
  | 0 => ("PatchBench$Shelf", "versions", "[LPatchBench$Bytes;", true)
  | 1 => ("PatchBench$Shelf", "patches", "[LPatchBench$Patch;", true)
  | 2 => ("PatchBench$Shelf", "planned", "[Z", true)
  | _ => ("PatchBench$Shelf", "planner", "LPatchBench$Planner;", true)
def tyX5 : Nat → FieldType := fun k => match k with
  | 0 => .array (.object "PatchBench$Bytes")
  | 1 => .array (.object "PatchBench$Patch")
  | 2 => .array .boolean
  | _ => .object "PatchBench$Planner"
abbrev wsX50 : List Cond := u_ws RX5 TX5 4
theorem nmX5 : ∀ a, a < 4 → ∀ b, b < 4 → a ≠ b → (TX5 a).2.1 ≠ (TX5 b).2.1 := by decide +kernel
theorem tyX5_ok : ∀ k, k < 4 → parseFieldDescriptor (TX5 k).2.2.1 = some (tyX5 k) := by decide +kernel
abbrev cX5_init : ByteArray := prog_7_method_1_code
def yX5_init : MethodName := ⟨RX5, "<init>", "()V"⟩
abbrev cX5_has : ByteArray := prog_7_method_2_code
def yX5_has : MethodName := ⟨RX5, "has", "(I)Z"⟩
abbrev cX5_bytesOf : ByteArray := prog_7_method_3_code
def yX5_bytesOf : MethodName := ⟨RX5, "bytesOf", "(I)LPatchBench$Bytes;"⟩
abbrev cX5_greatest : ByteArray := prog_7_method_4_code
def yX5_greatest : MethodName := ⟨RX5, "greatest", "()I"⟩
abbrev cX5_replace : ByteArray := prog_7_method_5_code
def yX5_replace : MethodName := ⟨RX5, "replace", "(ILPatchBench$Bytes;I)V"⟩
abbrev cX5_patchOf : ByteArray := prog_7_method_6_code
def yX5_patchOf : MethodName := ⟨RX5, "patchOf", "(II)LPatchBench$Patch;"⟩
abbrev cX5_priceOf : ByteArray := prog_7_method_7_code
def yX5_priceOf : MethodName := ⟨RX5, "priceOf", "(II)I"⟩
def RX6 : String := "PatchBench$Trace"
def TX6 : u_T := fun k => match k with
  | 0 => ("PatchBench$Trace", "places", "[I", true)
  | 1 => ("PatchBench$Trace", "plus", "[I", true)
  | 2 => ("PatchBench$Trace", "kept", "[Z", true)
  | _ => ("PatchBench$Trace", "count", "I", false)
def tyX6 : Nat → FieldType := fun k => match k with
  | 0 => .array .int
  | 1 => .array .int
  | 2 => .array .boolean
  | _ => .int
abbrev wsX60 : List Cond := u_ws RX6 TX6 4
theorem nmX6 : ∀ a, a < 4 → ∀ b, b < 4 → a ≠ b → (TX6 a).2.1 ≠ (TX6 b).2.1 := by decide +kernel
theorem tyX6_ok : ∀ k, k < 4 → parseFieldDescriptor (TX6 k).2.2.1 = some (tyX6 k) := by decide +kernel
abbrev cX6_init : ByteArray := prog_8_method_1_code
def yX6_init : MethodName := ⟨RX6, "<init>", "()V"⟩
abbrev cX6_follow : ByteArray := prog_8_method_2_code
def yX6_follow : MethodName := ⟨RX6, "follow", "(LPatchBench$Patch;LPatchBench$Bytes;)V"⟩
abbrev cX6_take : ByteArray := prog_8_method_3_code
def yX6_take : MethodName := ⟨RX6, "take", "(LPatchBench$Trace;)V"⟩
abbrev cX6_reachThrough : ByteArray := prog_8_method_4_code
def yX6_reachThrough : MethodName := ⟨RX6, "reachThrough", "(LPatchBench$Trace;)V"⟩
abbrev cX6_gather : ByteArray := prog_8_method_5_code
def yX6_gather : MethodName := ⟨RX6, "gather", "(LPatchBench$Patch;)V"⟩
abbrev cX6_addedFrom : ByteArray := prog_8_method_6_code
def yX6_addedFrom : MethodName := ⟨RX6, "addedFrom", "(I)I"⟩
abbrev cX6_alikeFrom : ByteArray := prog_8_method_7_code
def yX6_alikeFrom : MethodName := ⟨RX6, "alikeFrom", "(I)I"⟩
abbrev cX6_countKept : ByteArray := prog_8_method_8_code
def yX6_countKept : MethodName := ⟨RX6, "countKept", "(I)I"⟩
abbrev cX6_comesTooLate : ByteArray := prog_8_method_9_code
def yX6_comesTooLate : MethodName := ⟨RX6, "comesTooLate", "(III)Z"⟩
abbrev cX6_isKept : ByteArray := prog_8_method_10_code
def yX6_isKept : MethodName := ⟨RX6, "isKept", "(I)Z"⟩
def RX7 : String := "PatchBench"
def TX7 : u_T := fun k => match k with
  | 0 => ("PatchBench", "tape", "LPatchBench$Bytes;", true)
  | 1 => ("PatchBench", "shelf", "LPatchBench$Shelf;", true)
  | 2 => ("PatchBench", "trace", "LPatchBench$Trace;", true)
  | 3 => ("PatchBench", "earlierTrace", "LPatchBench$Trace;", true)
  | 4 => ("PatchBench", "meltedPatch", "LPatchBench$Patch;", true)
  | 5 => ("PatchBench", "theDevice", "LPatchBench$Device;", true)
  | _ => ("PatchBench", "theFleet", "LPatchBench$Fleet;", true)
def tyX7 : Nat → FieldType := fun k => match k with
  | 0 => .object "PatchBench$Bytes"
  | 1 => .object "PatchBench$Shelf"
  | 2 => .object "PatchBench$Trace"
  | 3 => .object "PatchBench$Trace"
  | 4 => .object "PatchBench$Patch"
  | 5 => .object "PatchBench$Device"
  | _ => .object "PatchBench$Fleet"
abbrev wsX70 : List Cond := u_ws RX7 TX7 7
theorem nmX7 : ∀ a, a < 7 → ∀ b, b < 7 → a ≠ b → (TX7 a).2.1 ≠ (TX7 b).2.1 := by decide +kernel
theorem tyX7_ok : ∀ k, k < 7 → parseFieldDescriptor (TX7 k).2.2.1 = some (tyX7 k) := by decide +kernel
abbrev cX7_init : ByteArray := prog_1_method_1_code
def yX7_init : MethodName := ⟨RX7, "<init>", "()V"⟩
abbrev cX7_feed : ByteArray := prog_1_method_2_code
def yX7_feed : MethodName := ⟨RX7, "feed", "(IIIII)I"⟩
abbrev cX7_version : ByteArray := prog_1_method_3_code
def yX7_version : MethodName := ⟨RX7, "version", "(II)I"⟩
abbrev cX7_told : ByteArray := prog_1_method_4_code
def yX7_told : MethodName := ⟨RX7, "told", "(II)I"⟩
abbrev cX7_check : ByteArray := prog_1_method_5_code
def yX7_check : MethodName := ⟨RX7, "check", "(I)I"⟩
abbrev cX7_cost : ByteArray := prog_1_method_6_code
def yX7_cost : MethodName := ⟨RX7, "cost", "(II)I"⟩
abbrev cX7_step : ByteArray := prog_1_method_7_code
def yX7_step : MethodName := ⟨RX7, "step", "(IIII)I"⟩
abbrev cX7_melt : ByteArray := prog_1_method_8_code
def yX7_melt : MethodName := ⟨RX7, "melt", "(III)I"⟩
abbrev cX7_melted : ByteArray := prog_1_method_9_code
def yX7_melted : MethodName := ⟨RX7, "melted", "(II)I"⟩
abbrev cX7_room : ByteArray := prog_1_method_10_code
def yX7_room : MethodName := ⟨RX7, "room", "(III)I"⟩
abbrev cX7_install : ByteArray := prog_1_method_11_code
def yX7_install : MethodName := ⟨RX7, "install", "(I)Z"⟩
abbrev cX7_update : ByteArray := prog_1_method_12_code
def yX7_update : MethodName := ⟨RX7, "update", "(II)I"⟩
abbrev cX7_write : ByteArray := prog_1_method_13_code
def yX7_write : MethodName := ⟨RX7, "write", "(I)I"⟩
abbrev cX7_cut : ByteArray := prog_1_method_14_code
def yX7_cut : MethodName := ⟨RX7, "cut", "()Z"⟩
abbrev cX7_on : ByteArray := prog_1_method_15_code
def yX7_on : MethodName := ⟨RX7, "on", "()I"⟩
abbrev cX7_device : ByteArray := prog_1_method_16_code
def yX7_device : MethodName := ⟨RX7, "device", "(I)I"⟩
abbrev cX7_fleet : ByteArray := prog_1_method_17_code
def yX7_fleet : MethodName := ⟨RX7, "fleet", "(II)Z"⟩
abbrev cX7_hold : ByteArray := prog_1_method_18_code
def yX7_hold : MethodName := ⟨RX7, "hold", "(IIZ)Z"⟩
abbrev cX7_sent : ByteArray := prog_1_method_19_code
def yX7_sent : MethodName := ⟨RX7, "sent", "()I"⟩
abbrev cX7_best : ByteArray := prog_1_method_20_code
def yX7_best : MethodName := ⟨RX7, "best", "(II)I"⟩
abbrev cX7_stepPrice : ByteArray := prog_1_method_21_code
def yX7_stepPrice : MethodName := ⟨RX7, "stepPrice", "(II)I"⟩
def RX8 : String := "PatchBenchModel"
def TX8 : u_T := fun k => match k with
  | 0 => ("PatchBenchModel", "tape", "[B", true)
  | 1 => ("PatchBenchModel", "taped", "I", false)
  | 2 => ("PatchBenchModel", "bytes", "[B", true)
  | 3 => ("PatchBenchModel", "size", "[I", true)
  | 4 => ("PatchBenchModel", "run", "[I", true)
  | 5 => ("PatchBenchModel", "least", "[I", true)
  | 6 => ("PatchBenchModel", "kind", "[I", true)
  | 7 => ("PatchBenchModel", "many", "[I", true)
  | 8 => ("PatchBenchModel", "place", "[I", true)
  | 9 => ("PatchBenchModel", "shift", "[I", true)
  | 10 => ("PatchBenchModel", "steps", "I", false)
  | 11 => ("PatchBenchModel", "costs", "I", false)
  | 12 => ("PatchBenchModel", "source", "[I", true)
  | 13 => ("PatchBenchModel", "by", "[I", true)
  | 14 => ("PatchBenchModel", "middle", "[I", true)
  | 15 => ("PatchBenchModel", "middleBy", "[I", true)
  | 16 => ("PatchBenchModel", "meltKind", "[I", true)
  | 17 => ("PatchBenchModel", "meltMany", "[I", true)
  | 18 => ("PatchBenchModel", "meltPlace", "[I", true)
  | 19 => ("PatchBenchModel", "meltShift", "[I", true)
  | 20 => ("PatchBenchModel", "meltSteps", "I", false)
  | 21 => ("PatchBenchModel", "isKept", "[Z", true)
  | 22 => ("PatchBenchModel", "area", "[B", true)
  | 23 => ("PatchBenchModel", "aside", "[B", true)
  | 24 => ("PatchBenchModel", "holds", "I", false)
  | 25 => ("PatchBenchModel", "writes", "I", false)
  | 26 => ("PatchBenchModel", "done", "I", false)
  | 27 => ("PatchBenchModel", "keepMany", "I", false)
  | 28 => ("PatchBenchModel", "news", "I", false)
  | 29 => ("PatchBenchModel", "isBegun", "Z", false)
  | 30 => ("PatchBenchModel", "isCut", "Z", false)
  | 31 => ("PatchBenchModel", "goesDown", "Z", false)
  | 32 => ("PatchBenchModel", "from", "[I", true)
  | 33 => ("PatchBenchModel", "shifted", "[I", true)
  | 34 => ("PatchBenchModel", "added", "[I", true)
  | 35 => ("PatchBenchModel", "kept", "[I", true)
  | 36 => ("PatchBenchModel", "lies", "[I", true)
  | 37 => ("PatchBenchModel", "devices", "[I", true)
  | 38 => ("PatchBenchModel", "isHeld", "[Z", true)
  | 39 => ("PatchBenchModel", "pairCost", "[I", true)
  | _ => ("PatchBenchModel", "way", "[I", true)
def tyX8 : Nat → FieldType := fun k => match k with
  | 0 => .array .byte
  | 1 => .int
  | 2 => .array .byte
  | 3 => .array .int
  | 4 => .array .int
  | 5 => .array .int
  | 6 => .array .int
  | 7 => .array .int
  | 8 => .array .int
  | 9 => .array .int
  | 10 => .int
  | 11 => .int
  | 12 => .array .int
  | 13 => .array .int
  | 14 => .array .int
  | 15 => .array .int
  | 16 => .array .int
  | 17 => .array .int
  | 18 => .array .int
  | 19 => .array .int
  | 20 => .int
  | 21 => .array .boolean
  | 22 => .array .byte
  | 23 => .array .byte
  | 24 => .int
  | 25 => .int
  | 26 => .int
  | 27 => .int
  | 28 => .int
  | 29 => .boolean
  | 30 => .boolean
  | 31 => .boolean
  | 32 => .array .int
  | 33 => .array .int
  | 34 => .array .int
  | 35 => .array .int
  | 36 => .array .int
  | 37 => .array .int
  | 38 => .array .boolean
  | 39 => .array .int
  | _ => .array .int
abbrev wsX80 : List Cond := u_ws RX8 TX8 41
theorem nmX8 : ∀ a, a < 41 → ∀ b, b < 41 → a ≠ b → (TX8 a).2.1 ≠ (TX8 b).2.1 := by decide +kernel
theorem tyX8_ok : ∀ k, k < 41 → parseFieldDescriptor (TX8 k).2.2.1 = some (tyX8 k) := by decide +kernel
abbrev cX8_init : ByteArray := prog_10_method_1_code
def yX8_init : MethodName := ⟨RX8, "<init>", "()V"⟩
abbrev cX8_isIn : ByteArray := prog_10_method_2_code
def yX8_isIn : MethodName := ⟨RX8, "isIn", "(III)Z"⟩
abbrev cX8_isVersion : ByteArray := prog_10_method_3_code
def yX8_isVersion : MethodName := ⟨RX8, "isVersion", "(I)Z"⟩
abbrev cX8_feed : ByteArray := prog_10_method_4_code
def yX8_feed : MethodName := ⟨RX8, "feed", "(IIIII)I"⟩
abbrev cX8_four : ByteArray := prog_10_method_5_code
def yX8_four : MethodName := ⟨RX8, "four", "(I)V"⟩
abbrev cX8_version : ByteArray := prog_10_method_6_code
def yX8_version : MethodName := ⟨RX8, "version", "(II)I"⟩
abbrev cX8_byteOf : ByteArray := prog_10_method_7_code
def yX8_byteOf : MethodName := ⟨RX8, "byteOf", "(II)I"⟩
abbrev cX8_told : ByteArray := prog_10_method_8_code
def yX8_told : MethodName := ⟨RX8, "told", "(II)I"⟩
abbrev cX8_next : ByteArray := prog_10_method_9_code
def yX8_next : MethodName := ⟨RX8, "next", "(II)I"⟩
abbrev cX8_check : ByteArray := prog_10_method_10_code
def yX8_check : MethodName := ⟨RX8, "check", "(I)I"⟩
abbrev cX8_apart : ByteArray := prog_10_method_11_code
def yX8_apart : MethodName := ⟨RX8, "apart", "(IIII)I"⟩
abbrev cX8_runAt : ByteArray := prog_10_method_12_code
def yX8_runAt : MethodName := ⟨RX8, "runAt", "(II)I"⟩
abbrev cX8_makes : ByteArray := prog_10_method_13_code
def yX8_makes : MethodName := ⟨RX8, "makes", "(II)V"⟩
abbrev cX8_takes : ByteArray := prog_10_method_14_code
def yX8_takes : MethodName := ⟨RX8, "takes", "(IIII)Z"⟩
abbrev cX8_adds : ByteArray := prog_10_method_15_code
def yX8_adds : MethodName := ⟨RX8, "adds", "(II)V"⟩
abbrev cX8_cost : ByteArray := prog_10_method_16_code
def yX8_cost : MethodName := ⟨RX8, "cost", "(II)I"⟩
abbrev cX8_step : ByteArray := prog_10_method_17_code
def yX8_step : MethodName := ⟨RX8, "step", "(IIII)I"⟩
abbrev cX8_melt : ByteArray := prog_10_method_18_code
def yX8_melt : MethodName := ⟨RX8, "melt", "(III)I"⟩
abbrev cX8_melted : ByteArray := prog_10_method_19_code
def yX8_melted : MethodName := ⟨RX8, "melted", "(II)I"⟩
abbrev cX8_keeps : ByteArray := prog_10_method_20_code
def yX8_keeps : MethodName := ⟨RX8, "keeps", "(IZ)I"⟩
abbrev cX8_room : ByteArray := prog_10_method_21_code
def yX8_room : MethodName := ⟨RX8, "room", "(III)I"⟩
abbrev cX8_install : ByteArray := prog_10_method_22_code
def yX8_install : MethodName := ⟨RX8, "install", "(I)Z"⟩
abbrev cX8_checkOfArea : ByteArray := prog_10_method_23_code
def yX8_checkOfArea : MethodName := ⟨RX8, "checkOfArea", "()I"⟩
abbrev cX8_allWrites : ByteArray := prog_10_method_24_code
def yX8_allWrites : MethodName := ⟨RX8, "allWrites", "()I"⟩
abbrev cX8_update : ByteArray := prog_10_method_25_code
def yX8_update : MethodName := ⟨RX8, "update", "(II)I"⟩
abbrev cX8_writeOne : ByteArray := prog_10_method_26_code
def yX8_writeOne : MethodName := ⟨RX8, "writeOne", "(I)V"⟩
abbrev cX8_write : ByteArray := prog_10_method_27_code
def yX8_write : MethodName := ⟨RX8, "write", "(I)I"⟩
abbrev cX8_cut : ByteArray := prog_10_method_28_code
def yX8_cut : MethodName := ⟨RX8, "cut", "()Z"⟩
abbrev cX8_on : ByteArray := prog_10_method_29_code
def yX8_on : MethodName := ⟨RX8, "on", "()I"⟩
abbrev cX8_device : ByteArray := prog_10_method_30_code
def yX8_device : MethodName := ⟨RX8, "device", "(I)I"⟩
abbrev cX8_fleet : ByteArray := prog_10_method_31_code
def yX8_fleet : MethodName := ⟨RX8, "fleet", "(II)Z"⟩
abbrev cX8_pair : ByteArray := prog_10_method_32_code
def yX8_pair : MethodName := ⟨RX8, "pair", "(II)I"⟩
abbrev cX8_hold : ByteArray := prog_10_method_33_code
def yX8_hold : MethodName := ⟨RX8, "hold", "(IIZ)Z"⟩
abbrev cX8_greatest : ByteArray := prog_10_method_34_code
def yX8_greatest : MethodName := ⟨RX8, "greatest", "()I"⟩
abbrev cX8_pairCosts : ByteArray := prog_10_method_35_code
def yX8_pairCosts : MethodName := ⟨RX8, "pairCosts", "()V"⟩
abbrev cX8_sentBy : ByteArray := prog_10_method_36_code
def yX8_sentBy : MethodName := ⟨RX8, "sentBy", "(I)I"⟩
abbrev cX8_sent : ByteArray := prog_10_method_37_code
def yX8_sent : MethodName := ⟨RX8, "sent", "()I"⟩
abbrev cX8_pairsIn : ByteArray := prog_10_method_38_code
def yX8_pairsIn : MethodName := ⟨RX8, "pairsIn", "(I)I"⟩
abbrev cX8_isLess : ByteArray := prog_10_method_39_code
def yX8_isLess : MethodName := ⟨RX8, "isLess", "(II)Z"⟩
abbrev cX8_best : ByteArray := prog_10_method_40_code
def yX8_best : MethodName := ⟨RX8, "best", "(II)I"⟩
def RJ6 : String := "java/lang/Integer"
def TJ6 : u_T := fun k => match k with
  | _ => ("", "", "", false)
def tyJ6 : Nat → FieldType := fun k => match k with
  | _ => .int
abbrev wsJ60 : List Cond := u_ws RJ6 TJ6 0
theorem nmJ6 : ∀ a, a < 0 → ∀ b, b < 0 → a ≠ b → (TJ6 a).2.1 ≠ (TJ6 b).2.1 := by decide +kernel
theorem tyJ6_ok : ∀ k, k < 0 → parseFieldDescriptor (TJ6 k).2.2.1 = some (tyJ6 k) := by decide +kernel
abbrev cJ6_bitCount_0f7a4 : ByteArray := prog_11_method_49_code
def yJ6_bitCount_0f7a4 : MethodName := ⟨RJ6, "bitCount", "(I)I"⟩
def RJ9 : String := "java/lang/Math"
def TJ9 : u_T := fun k => match k with
  | _ => ("", "", "", false)
def tyJ9 : Nat → FieldType := fun k => match k with
  | _ => .int
abbrev wsJ90 : List Cond := u_ws RJ9 TJ9 0
theorem nmJ9 : ∀ a, a < 0 → ∀ b, b < 0 → a ≠ b → (TJ9 a).2.1 ≠ (TJ9 b).2.1 := by decide +kernel
theorem tyJ9_ok : ∀ k, k < 0 → parseFieldDescriptor (TJ9 k).2.2.1 = some (tyJ9 k) := by decide +kernel
abbrev cJ9_max_7cf53 : ByteArray := prog_12_method_65_code
def yJ9_max_7cf53 : MethodName := ⟨RJ9, "max", "(II)I"⟩
abbrev cJ9_min_7cf53 : ByteArray := prog_12_method_69_code
def yJ9_min_7cf53 : MethodName := ⟨RJ9, "min", "(II)I"⟩
def RJ10 : String := "java/lang/System"
def TJ10 : u_T := fun k => match k with
  | _ => ("", "", "", false)
def tyJ10 : Nat → FieldType := fun k => match k with
  | _ => .int
abbrev wsJ100 : List Cond := u_ws RJ10 TJ10 0
theorem nmJ10 : ∀ a, a < 0 → ∀ b, b < 0 → a ≠ b → (TJ10 a).2.1 ≠ (TJ10 b).2.1 := by decide +kernel
theorem tyJ10_ok : ∀ k, k < 0 → parseFieldDescriptor (TJ10 k).2.2.1 = some (tyJ10 k) := by decide +kernel
def RL : String := "PatchBenchLaw"
abbrev cL_law : ByteArray := code
def yL_law : MethodName := ⟨RL, "law", "([I)Z"⟩
theorem inX0 : ∀ w ∈ wsX00, w ∈ lw_tbl := by decide +kernel
theorem inX1 : ∀ w ∈ wsX10, w ∈ lw_tbl := by decide +kernel
theorem inX2 : ∀ w ∈ wsX20, w ∈ lw_tbl := by decide +kernel
theorem inX3 : ∀ w ∈ wsX30, w ∈ lw_tbl := by decide +kernel
theorem inX4 : ∀ w ∈ wsX40, w ∈ lw_tbl := by decide +kernel
theorem inX5 : ∀ w ∈ wsX50, w ∈ lw_tbl := by decide +kernel
theorem inX6 : ∀ w ∈ wsX60, w ∈ lw_tbl := by decide +kernel
theorem inX7 : ∀ w ∈ wsX70, w ∈ lw_tbl := by decide +kernel
theorem inX8 : ∀ w ∈ wsX80, w ∈ lw_tbl := by decide +kernel
theorem inJ6 : ∀ w ∈ wsJ60, w ∈ lw_tbl := by decide +kernel
theorem inJ9 : ∀ w ∈ wsJ90, w ∈ lw_tbl := by decide +kernel
theorem inJ10 : ∀ w ∈ wsJ100, w ∈ lw_tbl := by decide +kernel
abbrev vwCl : List vw_C := [(RX0, TX0, 2), (RX1, TX1, 11), (RX2, TX2, 8), (RX3, TX3, 6), (RX4, TX4, 11), (RX5, TX5, 4), (RX6, TX6, 4), (RX7, TX7, 7), (RX8, TX8, 41)]
end
section
/-! A layer of mathematical integers over the machine's rows: a memory of typed cells (kinds T, lengths L, references P, numbers I), locals and stack of Ints and references. -/
abbrev PV : Type := Int ⊕ Option Nat
abbrev SY : Type := va_G × (Nat → ClassId) × Nat × (Nat → Nat) × (Nat → Nat) × (Nat → Nat → Int)
abbrev yD (Y : SY) : va_G := Y.1
abbrev yC (Y : SY) : Nat → ClassId := Y.2.1
abbrev yB (Y : SY) : Nat := Y.2.2.1
abbrev ySp (Y : SY) : Nat → Nat := Y.2.2.2.1
abbrev yL (Y : SY) : Nat → Nat := Y.2.2.2.2.1
abbrev yI (Y : SY) : Nat → Nat → Int := Y.2.2.2.2.2
def ad (Y : SY) (k : Nat) : Nat := if k < 3 then ySp Y k else yB Y + (k - 3)
theorem ad_hi (Y : SY) {k : Nat} (h : 3 ≤ k) : ad Y k = yB Y + (k - 3) := if_neg (by omega)
def eV (Y : SY) (v : PV) : Value := match v with
  | .inl z => .int (Int32.ofInt z)
  | .inr none => .null
  | .inr (some k) => .ref (ad Y k)
def rg (z : Int) : Prop := -2147483648 ≤ z ∧ z < 2147483648
def vg (v : PV) : Prop := match v with
  | .inl z => rg z
  | .inr _ => True
def yA (Y : SY) : Nat → Prop := fun q => yB Y ≤ q
/-- which fields are references -/
def fR8 (i : Nat) : Bool := !(i == 1 || i == 10 || i == 11 || i == 20 || (decide (24 ≤ i) && decide (i ≤ 31)))
def fR (ci i : Nat) : Bool := match ci with
  | 0 => decide (i < 1)
  | 1 => decide (i < 4)
  | 2 => decide (i < 3)
  | 3 => decide (i < 4)
  | 4 => decide (i < 7)
  | 5 => true
  | 6 => decide (i < 3)
  | 7 => true
  | _ => fR8 i
def cN (ci : Nat) : Nat := match ci with
  | 0 => 2
  | 1 => 11
  | 2 => 8
  | 3 => 6
  | 4 => 11
  | 5 => 4
  | 6 => 4
  | 7 => 7
  | _ => 41
def fV (Y : SY) (P : Nat → Nat → Option Nat) (I : Nat → Nat → Int) (ci k i : Nat) : Value := if fR ci i then va_rf ((P k i).map (ad Y)) else .int (Int32.ofInt (I k i))
def cE (Y : SY) (T L : Nat → Nat) (P : Nat → Nat → Option Nat) (I : Nat → Nat → Int) (k : Nat) : va_E :=
  if T k < 9 then .inr (T k, (List.range (cN (T k))).map (fV Y P I (T k) k))
  else if T k < 13 then .inl (yC Y (T k), L k, .inl (fun j => Int32.ofInt (I k j)))
  else .inl (yC Y (T k), L k, .inr (.inr (.inr (.inr (fun j => (P k j).map (ad Y))))))
/-- the heap holds the memory -/
def HR (Y : SY) (T L : Nat → Nat) (P : Nat → Nat → Option Nat) (I : Nat → Nat → Int) (hn : Nat) (H : Heap) : Prop :=
  H.size = yB Y + hn ∧ (∀ k, 3 ≤ k → k < 3 + hn → va_at (yD Y) vwCl (ad Y k, cE Y T L P I k) H) ∧ (∀ k, 3 + hn ≤ k → T k = 99) ∧ (∀ k, 3 ≤ k → T k ≠ 15) ∧ (∀ k i, rg (I k i)) ∧ ∀ k, k < 3 → T k = 15 ∧ L k = yL Y k ∧ ∀ i, I k i = yI Y k i
def aTy (t : Nat) : FieldType := match t with
  | 10 => .int
  | 11 => .byte
  | 12 => .boolean
  | 13 => .object RX0
  | _ => .object RX3
def mov (w : Cond) : Bool := match w with
  | .fieldLinkNest _ _ _ _ _ _ => true
  | .methodLinkNest _ _ _ _ => true
  | .arrayOver (.object _) => true
  | w => goodWord w
/-- what is known of the tables, the statics, the script -/
def KK (Y : SY) (U : State) : Prop :=
  va_K (yD Y) vwCl [(yC Y 10, .int), (yC Y 11, .byte), (yC Y 12, .boolean), (yC Y 13, .object RX0), (yC Y 14, .object RX3)] U ∧ (∀ (a : Array Value) (w : Cond), w ∈ lw_tbl → mov w = true → w.before a U = true) ∧ yB Y ≤ U.heap.size ∧
  (∀ k, k < 3 → va_T .int (ySp Y k) (yL Y k) (fun j => .int (Int32.ofInt (yI Y k j))) (yA Y) U U.heap) ∧ (∀ k, k < 3 → yL Y k < 2147483648) ∧ (∀ k i, k < 3 → rg (yI Y k i)) ∧
  va_Z "PatchBench" "PAIR_FROM" "[I" (.ref (ySp Y 1)) (yA Y) U U.heap ∧ va_Z "PatchBench" "PAIR_TO" "[I" (.ref (ySp Y 2)) (yA Y) U U.heap
theorem mov_warm {w : Cond} (h : mov w = true) {s U : State} (hW : s.WarmedH U.vm) {a a' : Array Value} (hb : w.before a s = true) : w.before a' U = true := by
  cases w with
  | fieldLinkNest x1 x2 x3 x4 x5 x6 => exact va_Nw.use rfl (va_Nw.warmF hW (va_Nw.of rfl hb))
  | methodLinkNest x1 x2 x3 x4 => exact va_Nw.use rfl (va_Nw.warmM hW (va_Nw.of rfl hb))
  | arrayOver t =>
    cases t with
    | object C => exact va_AO.use (va_AO.moved hW.alike (va_AO.of hb))
    | _ => exact word_at hW (good_of_word h) hb
  | _ => exact word_at hW (good_of_word h) hb
theorem KK.warm {Y : SY} {s U : State} (h : KK Y s) (hW : s.WarmedH U.vm) (hz : yB Y ≤ U.heap.size) (hq : ∀ q, q < s.heap.size → ¬ yA Y q → U.heap[q]? = s.heap[q]?) : KK Y U := by
  obtain ⟨h1, h2, h3, h4, h5, h6, h7, h8⟩ := h
  exact ⟨va_K.moved hW.alike h1, fun a w hw hm => mov_warm hm hW (h2 #[] w hw hm), hz, fun k hk => ((h4 k hk).kept hq).moved hW.alike, h5, h6, (h7.kept hq).moved hW.alike, (h8.kept hq).moved hW.alike⟩
/-- the context of a method's body -/
abbrev Cx : Type := Program × Launch × Env × Room × State × MethodId × Array Value × List Frame × Method × Code
abbrev xp (X : Cx) : Program := X.1
abbrev xl (X : Cx) : Launch := X.2.1
abbrev xe (X : Cx) : Env := X.2.2.1
abbrev xR (X : Cx) : Room := X.2.2.2.1
abbrev xs (X : Cx) : State := X.2.2.2.2.1
abbrev xm (X : Cx) : MethodId := X.2.2.2.2.2.1
abbrev xa (X : Cx) : Array Value := X.2.2.2.2.2.2.1
abbrev xb (X : Cx) : List Frame := X.2.2.2.2.2.2.2.1
abbrev xh (X : Cx) : Method := X.2.2.2.2.2.2.2.2.1
abbrev xc (X : Cx) : Code := X.2.2.2.2.2.2.2.2.2
def pl (Y : SY) (ls : List (Option PV)) : List (Nat × Value) := ls.zipIdx.filterMap (fun q => q.1.map (fun v => (q.2, eV Y v)))
theorem pl_mem {Y : SY} {ls : List (Option PV)} {i : Nat} {x : Value} : (i, x) ∈ pl Y ls ↔ ∃ v, ls[i]? = some (some v) ∧ x = eV Y v := by
  unfold pl
  rw [List.mem_filterMap]
  constructor
  · rintro ⟨⟨o, j⟩, h1, h2⟩
    rw [List.mem_zipIdx_iff_getElem?] at h1
    cases o with
    | none => simp at h2
    | some v =>
      simp at h2
      obtain ⟨rfl, rfl⟩ := h2
      exact ⟨v, h1, rfl⟩
  · rintro ⟨v, h1, rfl⟩
    exact ⟨(some v, i), List.mem_zipIdx_iff_getElem?.mpr h1, rfl⟩
def LH (Y : SY) (la : Array Slot) (nL : Nat) (ls : List (Option PV)) : Prop := lv_has la nL (pl Y ls) ∧ ∀ (i : Nat) (v : PV), ls[i]? = some (some v) → vg v
theorem LH.get {Y : SY} {la : Array Slot} {nL : Nat} {ls : List (Option PV)} (h : LH Y la nL ls) {i : Nat} {v : PV} (hi : ls[i]? = some (some v)) : la[i]? = some (.val (eV Y v)) := h.1.2.2 (i, eV Y v) (pl_mem.mpr ⟨v, hi, rfl⟩)
theorem eV_cat (Y : SY) (v : PV) : (eV Y v).category = 1 := by
  cases v with
  | inl z => rfl
  | inr o => cases o <;> rfl
theorem LH.set {Y : SY} {la la' : Array Slot} {nL : Nat} {ls : List (Option PV)} (h : LH Y la nL ls) {i : Nat} {v : PV} (hv : vg v) (h' : lv_has la' nL ((i, eV Y v) :: (pl Y ls).filter (fun q => !(q.1 == i) && !(q.1 + 1 == i && q.2.category == 2)))) : LH Y la' nL (ls.set i (some v)) := by
  refine ⟨⟨h'.1, h'.2.1, fun q hq => ?_⟩, fun j w hj => ?_⟩
  · obtain ⟨j, x⟩ := q
    obtain ⟨w, hw, rfl⟩ := pl_mem.mp hq
    refine h'.2.2 (j, eV Y w) ?_
    by_cases hji : i = j
    · subst hji
      rw [List.getElem?_set_self' ] at hw
      cases hls : ls[i]? with
      | none => rw [hls] at hw; simp at hw
      | some o =>
        rw [hls] at hw
        simp at hw
        subst hw
        exact List.mem_cons_self
    · rw [List.getElem?_set_ne hji] at hw
      refine List.mem_cons_of_mem _ (List.mem_filter.mpr ⟨pl_mem.mpr ⟨w, hw, rfl⟩, ?_⟩)
      have e1 : (j == i) = false := by simp; omega
      have e2 : ((eV Y w).category == 2) = false := by rw [eV_cat]; rfl
      simp only [e1, e2, Bool.and_false, Bool.not_false, Bool.and_self]
  · by_cases hji : i = j
    · subst hji
      rw [List.getElem?_set_self' ] at hj
      cases hls : ls[i]? with
      | none => rw [hls] at hj; simp at hj
      | some o =>
        rw [hls] at hj
        simp at hj
        subst hj
        exact hv
    · rw [List.getElem?_set_ne hji] at hj
      exact h.2 j w hj
/-- from here, with these locals, this stack, this memory, the machine comes to Q -/
def RR (X : Cx) (Y : SY) (Q : State → Prop) (cells slots pc : Nat) (ls : List (Option PV)) (st : List PV) (T L : Nat → Nat) (P : Nat → Nat → Option Nat) (I : Nat → Nat → Int) (hn : Nat) : Prop :=
  ∀ (H : Heap) (locs : List Loc) (la : Array Slot), HR Y T L P I hn H → va_S (yA Y) (xs X).heap H locs → LH Y la (xc X).maxLocals ls → (∀ v ∈ st, vg v) →
    W (xp X) (xl X) (xe X) (xR X) (xs X) (xm X) (xa X) (xb X) (xh X) (xc X) H locs cells slots Q (F0 (xm X) pc la (st.map (eV Y)))
/-- the context is that of a method with these bytes, of this class -/
def OK (X : Cx) (Y : SY) (cc : ByteArray) (own : String) (nL : Nat) (ret : Option FieldType) (R : Room) (nm : String) : Prop :=
  (xp X).tables.exec = Jvm.exec ∧ (xc X).code = cc ∧ (xc X).maxLocals = nL ∧ (xs X).vm.findClass own = some (xm X).cls ∧ KK Y (xs X) ∧ (xh X).sig.returnType = ret ∧ (xh X).locks = false ∧ xR X = R ∧ (xh X).name = nm
end
section
theorem oi_add (x y : Int) : Int32.ofInt x + Int32.ofInt y = Int32.ofInt (x + y) := (Int32.ofInt_add x y).symm
theorem oi_sub (x y : Int) : Int32.ofInt x - Int32.ofInt y = Int32.ofInt (x - y) := (Int32.ofInt_sub x y).symm
theorem oi_mul (x y : Int) : Int32.ofInt x * Int32.ofInt y = Int32.ofInt (x * y) := (Int32.ofInt_mul x y).symm
theorem oi_neg (x : Int) : - Int32.ofInt x = Int32.ofInt (-x) := (Int32.ofInt_neg x).symm
theorem oi_toInt {x : Int} (h : rg x) : (Int32.ofInt x).toInt = x := by
  obtain ⟨h1, h2⟩ := h
  exact Int32.toInt_ofInt_of_le (by omega) (by omega)
theorem oi_of (x : Int32) : Int32.ofInt x.toInt = x := Int32.ofInt_toInt x
theorem rg_of (x : Int32) : rg x.toInt := by
  have h1 := Int32.le_toInt x
  have h2 := Int32.toInt_lt x
  exact ⟨by omega, by omega⟩
theorem oi_lt {x y : Int} (hx : rg x) (hy : rg y) : Int32.ofInt x < Int32.ofInt y ↔ x < y := by rw [Int32.lt_iff_toInt_lt, oi_toInt hx, oi_toInt hy]
theorem oi_le {x y : Int} (hx : rg x) (hy : rg y) : Int32.ofInt x ≤ Int32.ofInt y ↔ x ≤ y := by rw [Int32.le_iff_toInt_le, oi_toInt hx, oi_toInt hy]
theorem oi_eq {x y : Int} (hx : rg x) (hy : rg y) : Int32.ofInt x = Int32.ofInt y ↔ x = y := by
  constructor
  · intro h
    have := congrArg Int32.toInt h
    rwa [oi_toInt hx, oi_toInt hy] at this
  · rintro rfl; rfl
theorem rg0 : rg 0 := ⟨by decide, by decide⟩
theorem oi_0 : Int32.ofInt 0 = 0 := rfl
theorem oi_cl {x : Int} (h : rg x) : (Int32.ofInt x).toNatClampNeg = x.toNat := by
  show (Int32.ofInt x).toInt.toNat = _
  rw [oi_toInt h]
theorem oi_in {x : Int} {n : Nat} (h : rg x) (h1 : 0 ≤ x) (h2 : x < n) : vp_in (Int32.ofInt x) n := by
  rw [vp_in_iff, oi_toInt h]
  exact ⟨h1, h2⟩
theorem vcons {v : PV} {st : List PV} (h : vg v) (hs : ∀ w ∈ st, vg w) : ∀ w ∈ v :: st, vg w := fun w hw => (List.mem_cons.mp hw).elim (fun e => e ▸ h) (hs w)
theorem vtail {v : PV} {st : List PV} (hs : ∀ w ∈ v :: st, vg w) : ∀ w ∈ st, vg w := fun w hw => hs w (List.mem_cons_of_mem _ hw)
theorem vhead {v : PV} {st : List PV} (hs : ∀ w ∈ v :: st, vg w) : vg v := hs v List.mem_cons_self
theorem vh {z : Int} {st : List PV} (hs : ∀ w ∈ (.inl z : PV) :: st, vg w) : rg z := hs _ List.mem_cons_self
section ROWS
variable {X : Cx} {Y : SY} {Q : State → Prop} {cells slots pc : Nat} {ls : List (Option PV)} {st : List PV} {T L : Nat → Nat} {P : Nat → Nat → Option Nat} {I : Nat → Nat → Int} {hn : Nat} {cc : ByteArray} {own : String} {nL : Nat} {ret : Option FieldType} {R : Room} {nm : String}
theorem r_iconst (K : OK X Y cc own nL ret R nm) {n : Int} (hd : decode cc pc = .ok (.iconst n, 1)) (k : RR X Y Q cells slots (pc + 1) ls (.inl n :: st) T L P I hn) (hr : -2147483648 ≤ n ∧ n < 2147483648 := by omega) : RR X Y Q cells slots pc ls st T L P I hn :=
  fun H locs la hH hS hL hV => lv_iconst K.1 K.2.1 hd rfl (k H locs la hH hS hL (vcons hr hV))
theorem r_bipush (K : OK X Y cc own nL ret R nm) {n : Int} (hd : decode cc pc = .ok (.bipush n, 2)) (k : RR X Y Q cells slots (pc + 2) ls (.inl n :: st) T L P I hn) (hr : -2147483648 ≤ n ∧ n < 2147483648 := by omega) (hv : (Int8.ofInt n).toInt32 = Int32.ofInt n := by decide) : RR X Y Q cells slots pc ls st T L P I hn :=
  fun H locs la hH hS hL hV => lv_bipush K.1 K.2.1 hd hv (k H locs la hH hS hL (vcons hr hV))
theorem r_sipush (K : OK X Y cc own nL ret R nm) {n : Int} (hd : decode cc pc = .ok (.sipush n, 3)) (k : RR X Y Q cells slots (pc + 3) ls (.inl n :: st) T L P I hn) (hr : -2147483648 ≤ n ∧ n < 2147483648 := by omega) (hv : (Int16.ofInt n).toInt32 = Int32.ofInt n := by decide) : RR X Y Q cells slots pc ls st T L P I hn :=
  fun H locs la hH hS hL hV => lv_sipush K.1 K.2.1 hd hv (k H locs la hH hS hL (vcons hr hV))
theorem r_ldc (K : OK X Y cc own nL ret R nm) {i : Nat} {v : Int32} {n : Int} (hd : decode cc pc = .ok (.ldc i, 2)) (hc : Cond.constant own i v ∈ lw_tbl) (hv : v = Int32.ofInt n) (k : RR X Y Q cells slots (pc + 2) ls (.inl n :: st) T L P I hn) (hr : -2147483648 ≤ n ∧ n < 2147483648 := by omega) : RR X Y Q cells slots pc ls st T L P I hn := by
  subst hv
  exact fun H locs la hH hS hL hV => lv_ldc K.1 K.2.1 K.2.2.2.1 (K.2.2.2.2.1.2.1 _ _ hc rfl) hd (k H locs la hH hS hL (vcons hr hV))
theorem r_iload_n (K : OK X Y cc own nL ret R nm) {j : Fin 4} {z : Int} (hd : decode cc pc = .ok (.iload_n j, 1)) (hl : ls[(j : Nat)]? = some (some (.inl z))) (k : RR X Y Q cells slots (pc + 1) ls (.inl z :: st) T L P I hn) : RR X Y Q cells slots pc ls st T L P I hn :=
  fun H locs la hH hS hL hV => lv_iload_n K.1 K.2.1 hd rfl (hL.get hl) (k H locs la hH hS hL (vcons (hL.2 _ _ hl) hV))
theorem r_iload (K : OK X Y cc own nL ret R nm) {j : Nat} {z : Int} (hd : decode cc pc = .ok (.iload j, 2)) (hl : ls[j]? = some (some (.inl z))) (k : RR X Y Q cells slots (pc + 2) ls (.inl z :: st) T L P I hn) : RR X Y Q cells slots pc ls st T L P I hn :=
  fun H locs la hH hS hL hV => lv_iload K.1 K.2.1 hd (hL.get hl) (k H locs la hH hS hL (vcons (hL.2 _ _ hl) hV))
theorem r_aload_n (K : OK X Y cc own nL ret R nm) {j : Fin 4} {q : Nat} (hd : decode cc pc = .ok (.aload_n j, 1)) (hl : ls[(j : Nat)]? = some (some (.inr (some q)))) (k : RR X Y Q cells slots (pc + 1) ls (.inr (some q) :: st) T L P I hn) : RR X Y Q cells slots pc ls st T L P I hn :=
  fun H locs la hH hS hL hV => lv_aload_n K.1 K.2.1 hd rfl (hL.get hl) (k H locs la hH hS hL (vcons trivial hV))
theorem r_aload (K : OK X Y cc own nL ret R nm) {j q : Nat} (hd : decode cc pc = .ok (.aload j, 2)) (hl : ls[j]? = some (some (.inr (some q)))) (k : RR X Y Q cells slots (pc + 2) ls (.inr (some q) :: st) T L P I hn) : RR X Y Q cells slots pc ls st T L P I hn :=
  fun H locs la hH hS hL hV => lv_aload K.1 K.2.1 hd (hL.get hl) (k H locs la hH hS hL (vcons trivial hV))
theorem r_istore_n (K : OK X Y cc own nL ret R nm) {j : Fin 4} {z : Int} (hd : decode cc pc = .ok (.istore_n j, 1)) (hj : (j : Nat) < nL) (k : RR X Y Q cells slots (pc + 1) (ls.set (j : Nat) (some (.inl z))) st T L P I hn) : RR X Y Q cells slots pc ls (.inl z :: st) T L P I hn :=
  fun H locs la hH hS hL hV => lv_istore_n K.1 K.2.1 hd rfl hL.1 (by rw [K.2.2.1]; exact hj) rfl (fun la' h' => k H locs la' hH hS (hL.set (v := .inl z) (vh hV) h') (vtail hV))
theorem r_istore (K : OK X Y cc own nL ret R nm) {j : Nat} {z : Int} (hd : decode cc pc = .ok (.istore j, 2)) (hj : j < nL) (k : RR X Y Q cells slots (pc + 2) (ls.set j (some (.inl z))) st T L P I hn) : RR X Y Q cells slots pc ls (.inl z :: st) T L P I hn :=
  fun H locs la hH hS hL hV => lv_istore K.1 K.2.1 hd hL.1 (by rw [K.2.2.1]; exact hj) rfl (fun la' h' => k H locs la' hH hS (hL.set (v := .inl z) (vh hV) h') (vtail hV))
theorem r_astore_n (K : OK X Y cc own nL ret R nm) {j : Fin 4} {q : Nat} (hd : decode cc pc = .ok (.astore_n j, 1)) (hj : (j : Nat) < nL) (k : RR X Y Q cells slots (pc + 1) (ls.set (j : Nat) (some (.inr (some q)))) st T L P I hn) : RR X Y Q cells slots pc ls (.inr (some q) :: st) T L P I hn :=
  fun H locs la hH hS hL hV => lv_astore_n K.1 K.2.1 hd rfl hL.1 (by rw [K.2.2.1]; exact hj) rfl (fun la' h' => k H locs la' hH hS (hL.set (v := .inr (some q)) trivial h') (vtail hV))
theorem r_iinc (K : OK X Y cc own nL ret R nm) {j : Nat} {n z : Int} (hd : decode cc pc = .ok (.iinc j n, 3)) (hj : j < nL) (hl : ls[j]? = some (some (.inl z))) (k : RR X Y Q cells slots (pc + 3) (ls.set j (some (.inl (z + n)))) st T L P I hn) (hr : -2147483648 ≤ z + n ∧ z + n < 2147483648 := by omega) : RR X Y Q cells slots pc ls st T L P I hn :=
  fun H locs la hH hS hL hV => by
    obtain ⟨i, hi⟩ := List.getElem?_of_mem (pl_mem.mpr ⟨_, hl, rfl⟩ : (j, eV Y (.inl z)) ∈ pl Y ls)
    exact lv_iinc (k := i) K.1 K.2.1 hd hL.1 hi (oi_add z n) (by rw [K.2.2.1]; exact hj) rfl (fun la' h' => k H locs la' hH hS (hL.set (v := .inl (z + n)) hr h') hV)
theorem r_iadd (K : OK X Y cc own nL ret R nm) {x y : Int} (hd : decode cc pc = .ok (.iadd, 1)) (k : RR X Y Q cells slots (pc + 1) ls (.inl (x + y) :: st) T L P I hn) (hr : -2147483648 ≤ x + y ∧ x + y < 2147483648 := by omega) : RR X Y Q cells slots pc ls (.inl y :: .inl x :: st) T L P I hn :=
  fun H locs la hH hS hL hV => lv_iadd K.1 K.2.1 hd (by rw [oi_add]; exact k H locs la hH hS hL (vcons hr (vtail (vtail hV))))
theorem r_isub (K : OK X Y cc own nL ret R nm) {x y : Int} (hd : decode cc pc = .ok (.isub, 1)) (k : RR X Y Q cells slots (pc + 1) ls (.inl (x - y) :: st) T L P I hn) (hr : -2147483648 ≤ x - y ∧ x - y < 2147483648 := by omega) : RR X Y Q cells slots pc ls (.inl y :: .inl x :: st) T L P I hn :=
  fun H locs la hH hS hL hV => lv_isub K.1 K.2.1 hd (by rw [oi_sub]; exact k H locs la hH hS hL (vcons hr (vtail (vtail hV))))
theorem r_imul (K : OK X Y cc own nL ret R nm) {x y : Int} (hd : decode cc pc = .ok (.imul, 1)) (k : RR X Y Q cells slots (pc + 1) ls (.inl (x * y) :: st) T L P I hn) (hr : -2147483648 ≤ x * y ∧ x * y < 2147483648 := by omega) : RR X Y Q cells slots pc ls (.inl y :: .inl x :: st) T L P I hn :=
  fun H locs la hH hS hL hV => lv_imul K.1 K.2.1 hd (by rw [oi_mul]; exact k H locs la hH hS hL (vcons hr (vtail (vtail hV))))
theorem r_ineg (K : OK X Y cc own nL ret R nm) {x : Int} (hd : decode cc pc = .ok (.ineg, 1)) (k : RR X Y Q cells slots (pc + 1) ls (.inl (-x) :: st) T L P I hn) (hr : -2147483648 ≤ -x ∧ -x < 2147483648 := by omega) : RR X Y Q cells slots pc ls (.inl x :: st) T L P I hn :=
  fun H locs la hH hS hL hV => lv_ineg K.1 K.2.1 hd (by rw [oi_neg]; exact k H locs la hH hS hL (vcons hr (vtail hV)))
theorem oi_div {x y : Int} (hx : rg x) (hy : rg y) (h0 : 0 ≤ x) (h1 : 0 < y) : Int32.ofInt x / Int32.ofInt y = Int32.ofInt (x / y) := by
  have h2 : x / y ≤ x := Int.ediv_le_self _ h0
  have h3 : 0 ≤ x / y := Int.ediv_nonneg h0 (by omega)
  have hr : rg (x / y) := ⟨by omega, by have := hx.2; omega⟩
  apply Int32.toInt_inj.mp
  rw [Int32.toInt_div_of_ne_right _ _ (by
    intro h
    have := congrArg Int32.toInt h
    rw [oi_toInt hy] at this
    have e : (-1 : Int32).toInt = -1 := by decide
    omega), oi_toInt hx, oi_toInt hy, oi_toInt hr]
  exact Int.tdiv_eq_ediv_of_nonneg h0
theorem r_idiv (K : OK X Y cc own nL ret R nm) {x y : Int} (hd : decode cc pc = .ok (.idiv, 1)) (h0 : 0 ≤ x) (h1 : 0 < y) (k : RR X Y Q cells slots (pc + 1) ls (.inl (x / y) :: st) T L P I hn) : RR X Y Q cells slots pc ls (.inl y :: .inl x :: st) T L P I hn :=
  fun H locs la hH hS hL hV => by
    have hy := vh hV
    have hx := vh (vtail hV)
    have h2 : x / y ≤ x := Int.ediv_le_self _ h0
    have h3 : 0 ≤ x / y := Int.ediv_nonneg h0 (by omega)
    refine lv_idiv K.1 K.2.1 hd ?_ ?_
    · rw [← oi_0, oi_eq hy rg0]; omega
    · rw [oi_div hx hy h0 h1]
      exact k H locs la hH hS hL (vcons (show rg _ from ⟨by omega, by have := hx.2; omega⟩) (vtail (vtail hV)))
theorem r_irem (K : OK X Y cc own nL ret R nm) {x y : Int} (hd : decode cc pc = .ok (.irem, 1)) (h0 : 0 ≤ x) (h1 : 0 < y) (k : RR X Y Q cells slots (pc + 1) ls (.inl (x % y) :: st) T L P I hn) : RR X Y Q cells slots pc ls (.inl y :: .inl x :: st) T L P I hn :=
  fun H locs la hH hS hL hV => by
    have hy := vh hV
    have hx := vh (vtail hV)
    have h2 : x % y < y := Int.emod_lt_of_pos _ h1
    have h3 : 0 ≤ x % y := Int.emod_nonneg _ (by omega)
    refine lv_irem K.1 K.2.1 hd ?_ ?_
    · rw [← oi_0, oi_eq hy rg0]; omega
    · rw [oi_div hx hy h0 h1, oi_mul, oi_sub, show x - x / y * y = x % y by have := Int.emod_add_mul_ediv x y; rw [Int.mul_comm]; omega]
      exact k H locs la hH hS hL (vcons (show rg _ from ⟨by omega, by have := hy.2; omega⟩) (vtail (vtail hV)))
/-- the machine's own and, or, xor, shifts, as numbers -/
def zAnd (x y : Int) : Int := (Int32.ofInt x &&& Int32.ofInt y).toInt
def zOr (x y : Int) : Int := (Int32.ofInt x ||| Int32.ofInt y).toInt
def zXor (x y : Int) : Int := (Int32.ofInt x ^^^ Int32.ofInt y).toInt
def zShl (x y : Int) : Int := (Int32.ofInt x <<< (Int32.ofInt y &&& 31)).toInt
def zShr (x y : Int) : Int := (Int32.ofInt x >>> (Int32.ofInt y &&& 31)).toInt
def zUshr (x y : Int) : Int := ((Int32.ofInt x).toUInt32 >>> ((Int32.ofInt y).toUInt32 &&& Int32.toUInt32 31)).toInt32.toInt
def zByte (x : Int) : Int := (Int32.ofInt x).toInt8.toInt32.toInt
theorem r_iand (K : OK X Y cc own nL ret R nm) {x y : Int} (hd : decode cc pc = .ok (.iand, 1)) (k : RR X Y Q cells slots (pc + 1) ls (.inl (zAnd x y) :: st) T L P I hn) : RR X Y Q cells slots pc ls (.inl y :: .inl x :: st) T L P I hn :=
  fun H locs la hH hS hL hV => lv_iand K.1 K.2.1 hd (by rw [← oi_of (_ &&& _)]; exact k H locs la hH hS hL (vcons (rg_of _) (vtail (vtail hV))))
theorem r_ior (K : OK X Y cc own nL ret R nm) {x y : Int} (hd : decode cc pc = .ok (.ior, 1)) (k : RR X Y Q cells slots (pc + 1) ls (.inl (zOr x y) :: st) T L P I hn) : RR X Y Q cells slots pc ls (.inl y :: .inl x :: st) T L P I hn :=
  fun H locs la hH hS hL hV => lv_ior K.1 K.2.1 hd (by rw [← oi_of (_ ||| _)]; exact k H locs la hH hS hL (vcons (rg_of _) (vtail (vtail hV))))
theorem r_ixor (K : OK X Y cc own nL ret R nm) {x y : Int} (hd : decode cc pc = .ok (.ixor, 1)) (k : RR X Y Q cells slots (pc + 1) ls (.inl (zXor x y) :: st) T L P I hn) : RR X Y Q cells slots pc ls (.inl y :: .inl x :: st) T L P I hn :=
  fun H locs la hH hS hL hV => lv_ixor K.1 K.2.1 hd (by rw [← oi_of (_ ^^^ _)]; exact k H locs la hH hS hL (vcons (rg_of _) (vtail (vtail hV))))
theorem r_ishl (K : OK X Y cc own nL ret R nm) {x y : Int} (hd : decode cc pc = .ok (.ishl, 1)) (k : RR X Y Q cells slots (pc + 1) ls (.inl (zShl x y) :: st) T L P I hn) : RR X Y Q cells slots pc ls (.inl y :: .inl x :: st) T L P I hn :=
  fun H locs la hH hS hL hV => lv_ishl K.1 K.2.1 hd (by rw [← oi_of (_ <<< _)]; exact k H locs la hH hS hL (vcons (rg_of _) (vtail (vtail hV))))
theorem r_ishr (K : OK X Y cc own nL ret R nm) {x y : Int} (hd : decode cc pc = .ok (.ishr, 1)) (k : RR X Y Q cells slots (pc + 1) ls (.inl (zShr x y) :: st) T L P I hn) : RR X Y Q cells slots pc ls (.inl y :: .inl x :: st) T L P I hn :=
  fun H locs la hH hS hL hV => lv_ishr K.1 K.2.1 hd (by rw [← oi_of (_ >>> _)]; exact k H locs la hH hS hL (vcons (rg_of _) (vtail (vtail hV))))
theorem r_iushr (K : OK X Y cc own nL ret R nm) {x y : Int} (hd : decode cc pc = .ok (.iushr, 1)) (k : RR X Y Q cells slots (pc + 1) ls (.inl (zUshr x y) :: st) T L P I hn) : RR X Y Q cells slots pc ls (.inl y :: .inl x :: st) T L P I hn :=
  fun H locs la hH hS hL hV => lv_iushr K.1 K.2.1 hd (oi_of _).symm (k H locs la hH hS hL (vcons (rg_of _) (vtail (vtail hV))))
theorem r_i2b (K : OK X Y cc own nL ret R nm) {x : Int} (hd : decode cc pc = .ok (.i2b, 1)) (k : RR X Y Q cells slots (pc + 1) ls (.inl (zByte x) :: st) T L P I hn) : RR X Y Q cells slots pc ls (.inl x :: st) T L P I hn :=
  fun H locs la hH hS hL hV => lv_i2b K.1 K.2.1 hd (oi_of _).symm (k H locs la hH hS hL (vcons (rg_of _) (vtail hV)))
theorem r_dup (K : OK X Y cc own nL ret R nm) {v : PV} (hd : decode cc pc = .ok (.dup, 1)) (k : RR X Y Q cells slots (pc + 1) ls (v :: v :: st) T L P I hn) : RR X Y Q cells slots pc ls (v :: st) T L P I hn :=
  fun H locs la hH hS hL hV => lv_dup K.1 K.2.1 hd (eV_cat Y v) (k H locs la hH hS hL (vcons (vhead hV) hV))
theorem r_pop (K : OK X Y cc own nL ret R nm) {v : PV} (hd : decode cc pc = .ok (.pop, 1)) (k : RR X Y Q cells slots (pc + 1) ls st T L P I hn) : RR X Y Q cells slots pc ls (v :: st) T L P I hn :=
  fun H locs la hH hS hL hV => lv_pop K.1 K.2.1 hd (eV_cat Y v) (k H locs la hH hS hL (vtail hV))
theorem r_goto (K : OK X Y cc own nL ret R nm) {off : Int} (tgt : Nat) (hd : decode cc pc = .ok (.goto off, 3)) (ht : (pc : Int) + off = (tgt : Int)) (k : RR X Y Q cells slots tgt ls st T L P I hn) : RR X Y Q cells slots pc ls st T L P I hn :=
  fun H locs la hH hS hL hV => lv_goto K.1 K.2.1 hd ht (k H locs la hH hS hL hV)
theorem r_icmp_eq (K : OK X Y cc own nL ret R nm) {x y off : Int} (tgt : Nat) (hd : decode cc pc = .ok (.if_icmp .eq off, 3)) (ht : (pc : Int) + off = (tgt : Int)) (kt : x = y → RR X Y Q cells slots tgt ls st T L P I hn) (kf : x ≠ y → RR X Y Q cells slots (pc + 3) ls st T L P I hn) : RR X Y Q cells slots pc ls (.inl y :: .inl x :: st) T L P I hn :=
  fun H locs la hH hS hL hV => by
    have hy := vh hV
    have hx := vh (vtail hV)
    exact lv_icmp_eq K.1 K.2.1 hd ht (fun h => kt ((oi_eq hx hy).mp h) H locs la hH hS hL (vtail (vtail hV))) (fun h => kf (fun e => h ((oi_eq hx hy).mpr e)) H locs la hH hS hL (vtail (vtail hV)))
theorem r_if_eq (K : OK X Y cc own nL ret R nm) {x off : Int} (tgt : Nat) (hd : decode cc pc = .ok (.ifCond .eq off, 3)) (ht : (pc : Int) + off = (tgt : Int)) (kt : x = 0 → RR X Y Q cells slots tgt ls st T L P I hn) (kf : x ≠ 0 → RR X Y Q cells slots (pc + 3) ls st T L P I hn) : RR X Y Q cells slots pc ls (.inl x :: st) T L P I hn :=
  fun H locs la hH hS hL hV => by
    have hx := vh hV
    exact lv_if_eq K.1 K.2.1 hd ht (fun h => kt ((oi_eq hx rg0).mp h) H locs la hH hS hL (vtail hV)) (fun h => kf (fun e => h ((oi_eq hx rg0).mpr e)) H locs la hH hS hL (vtail hV))
theorem r_icmp_ne (K : OK X Y cc own nL ret R nm) {x y off : Int} (tgt : Nat) (hd : decode cc pc = .ok (.if_icmp .ne off, 3)) (ht : (pc : Int) + off = (tgt : Int)) (kt : x ≠ y → RR X Y Q cells slots tgt ls st T L P I hn) (kf : x = y → RR X Y Q cells slots (pc + 3) ls st T L P I hn) : RR X Y Q cells slots pc ls (.inl y :: .inl x :: st) T L P I hn :=
  fun H locs la hH hS hL hV => by
    have hy := vh hV
    have hx := vh (vtail hV)
    exact lv_icmp_ne K.1 K.2.1 hd ht (fun h => kt (fun e => h ((oi_eq hx hy).mpr e)) H locs la hH hS hL (vtail (vtail hV))) (fun h => kf ((oi_eq hx hy).mp h) H locs la hH hS hL (vtail (vtail hV)))
theorem r_if_ne (K : OK X Y cc own nL ret R nm) {x off : Int} (tgt : Nat) (hd : decode cc pc = .ok (.ifCond .ne off, 3)) (ht : (pc : Int) + off = (tgt : Int)) (kt : x ≠ 0 → RR X Y Q cells slots tgt ls st T L P I hn) (kf : x = 0 → RR X Y Q cells slots (pc + 3) ls st T L P I hn) : RR X Y Q cells slots pc ls (.inl x :: st) T L P I hn :=
  fun H locs la hH hS hL hV => by
    have hx := vh hV
    exact lv_if_ne K.1 K.2.1 hd ht (fun h => kt (fun e => h ((oi_eq hx rg0).mpr e)) H locs la hH hS hL (vtail hV)) (fun h => kf ((oi_eq hx rg0).mp h) H locs la hH hS hL (vtail hV))
theorem r_icmp_lt (K : OK X Y cc own nL ret R nm) {x y off : Int} (tgt : Nat) (hd : decode cc pc = .ok (.if_icmp .lt off, 3)) (ht : (pc : Int) + off = (tgt : Int)) (kt : x < y → RR X Y Q cells slots tgt ls st T L P I hn) (kf : y ≤ x → RR X Y Q cells slots (pc + 3) ls st T L P I hn) : RR X Y Q cells slots pc ls (.inl y :: .inl x :: st) T L P I hn :=
  fun H locs la hH hS hL hV => by
    have hy := vh hV
    have hx := vh (vtail hV)
    exact lv_icmp_lt K.1 K.2.1 hd ht (fun h => kt ((oi_lt hx hy).mp h) H locs la hH hS hL (vtail (vtail hV))) (fun h => kf (Int.not_lt.mp (fun e => h ((oi_lt hx hy).mpr e))) H locs la hH hS hL (vtail (vtail hV)))
theorem r_if_lt (K : OK X Y cc own nL ret R nm) {x off : Int} (tgt : Nat) (hd : decode cc pc = .ok (.ifCond .lt off, 3)) (ht : (pc : Int) + off = (tgt : Int)) (kt : x < 0 → RR X Y Q cells slots tgt ls st T L P I hn) (kf : 0 ≤ x → RR X Y Q cells slots (pc + 3) ls st T L P I hn) : RR X Y Q cells slots pc ls (.inl x :: st) T L P I hn :=
  fun H locs la hH hS hL hV => by
    have hx := vh hV
    exact lv_if_lt K.1 K.2.1 hd ht (fun h => kt ((oi_lt hx rg0).mp h) H locs la hH hS hL (vtail hV)) (fun h => kf (Int.not_lt.mp (fun e => h ((oi_lt hx rg0).mpr e))) H locs la hH hS hL (vtail hV))
theorem r_icmp_ge (K : OK X Y cc own nL ret R nm) {x y off : Int} (tgt : Nat) (hd : decode cc pc = .ok (.if_icmp .ge off, 3)) (ht : (pc : Int) + off = (tgt : Int)) (kt : y ≤ x → RR X Y Q cells slots tgt ls st T L P I hn) (kf : x < y → RR X Y Q cells slots (pc + 3) ls st T L P I hn) : RR X Y Q cells slots pc ls (.inl y :: .inl x :: st) T L P I hn :=
  fun H locs la hH hS hL hV => by
    have hy := vh hV
    have hx := vh (vtail hV)
    exact lv_icmp_ge K.1 K.2.1 hd ht (fun h => kt ((oi_le hy hx).mp h) H locs la hH hS hL (vtail (vtail hV))) (fun h => kf (Int.not_le.mp (fun e => h ((oi_le hy hx).mpr e))) H locs la hH hS hL (vtail (vtail hV)))
theorem r_if_ge (K : OK X Y cc own nL ret R nm) {x off : Int} (tgt : Nat) (hd : decode cc pc = .ok (.ifCond .ge off, 3)) (ht : (pc : Int) + off = (tgt : Int)) (kt : 0 ≤ x → RR X Y Q cells slots tgt ls st T L P I hn) (kf : x < 0 → RR X Y Q cells slots (pc + 3) ls st T L P I hn) : RR X Y Q cells slots pc ls (.inl x :: st) T L P I hn :=
  fun H locs la hH hS hL hV => by
    have hx := vh hV
    exact lv_if_ge K.1 K.2.1 hd ht (fun h => kt ((oi_le rg0 hx).mp h) H locs la hH hS hL (vtail hV)) (fun h => kf (Int.not_le.mp (fun e => h ((oi_le rg0 hx).mpr e))) H locs la hH hS hL (vtail hV))
theorem r_icmp_gt (K : OK X Y cc own nL ret R nm) {x y off : Int} (tgt : Nat) (hd : decode cc pc = .ok (.if_icmp .gt off, 3)) (ht : (pc : Int) + off = (tgt : Int)) (kt : y < x → RR X Y Q cells slots tgt ls st T L P I hn) (kf : x ≤ y → RR X Y Q cells slots (pc + 3) ls st T L P I hn) : RR X Y Q cells slots pc ls (.inl y :: .inl x :: st) T L P I hn :=
  fun H locs la hH hS hL hV => by
    have hy := vh hV
    have hx := vh (vtail hV)
    exact lv_icmp_gt K.1 K.2.1 hd ht (fun h => kt ((oi_lt hy hx).mp h) H locs la hH hS hL (vtail (vtail hV))) (fun h => kf (Int.not_lt.mp (fun e => h ((oi_lt hy hx).mpr e))) H locs la hH hS hL (vtail (vtail hV)))
theorem r_if_gt (K : OK X Y cc own nL ret R nm) {x off : Int} (tgt : Nat) (hd : decode cc pc = .ok (.ifCond .gt off, 3)) (ht : (pc : Int) + off = (tgt : Int)) (kt : 0 < x → RR X Y Q cells slots tgt ls st T L P I hn) (kf : x ≤ 0 → RR X Y Q cells slots (pc + 3) ls st T L P I hn) : RR X Y Q cells slots pc ls (.inl x :: st) T L P I hn :=
  fun H locs la hH hS hL hV => by
    have hx := vh hV
    exact lv_if_gt K.1 K.2.1 hd ht (fun h => kt ((oi_lt rg0 hx).mp h) H locs la hH hS hL (vtail hV)) (fun h => kf (Int.not_lt.mp (fun e => h ((oi_lt rg0 hx).mpr e))) H locs la hH hS hL (vtail hV))
theorem r_icmp_le (K : OK X Y cc own nL ret R nm) {x y off : Int} (tgt : Nat) (hd : decode cc pc = .ok (.if_icmp .le off, 3)) (ht : (pc : Int) + off = (tgt : Int)) (kt : x ≤ y → RR X Y Q cells slots tgt ls st T L P I hn) (kf : y < x → RR X Y Q cells slots (pc + 3) ls st T L P I hn) : RR X Y Q cells slots pc ls (.inl y :: .inl x :: st) T L P I hn :=
  fun H locs la hH hS hL hV => by
    have hy := vh hV
    have hx := vh (vtail hV)
    exact lv_icmp_le K.1 K.2.1 hd ht (fun h => kt ((oi_le hx hy).mp h) H locs la hH hS hL (vtail (vtail hV))) (fun h => kf (Int.not_le.mp (fun e => h ((oi_le hx hy).mpr e))) H locs la hH hS hL (vtail (vtail hV)))
theorem r_if_le (K : OK X Y cc own nL ret R nm) {x off : Int} (tgt : Nat) (hd : decode cc pc = .ok (.ifCond .le off, 3)) (ht : (pc : Int) + off = (tgt : Int)) (kt : x ≤ 0 → RR X Y Q cells slots tgt ls st T L P I hn) (kf : 0 < x → RR X Y Q cells slots (pc + 3) ls st T L P I hn) : RR X Y Q cells slots pc ls (.inl x :: st) T L P I hn :=
  fun H locs la hH hS hL hV => by
    have hx := vh hV
    exact lv_if_le K.1 K.2.1 hd ht (fun h => kt ((oi_le hx rg0).mp h) H locs la hH hS hL (vtail hV)) (fun h => kf (Int.not_le.mp (fun e => h ((oi_le hx rg0).mpr e))) H locs la hH hS hL (vtail hV))
end ROWS
end
section
def Rn (ci : Nat) : String := match ci with
  | 0 => RX0
  | 1 => RX1
  | 2 => RX2
  | 3 => RX3
  | 4 => RX4
  | 5 => RX5
  | 6 => RX6
  | 7 => RX7
  | _ => RX8
def Tn (ci : Nat) : u_T := match ci with
  | 0 => TX0
  | 1 => TX1
  | 2 => TX2
  | 3 => TX3
  | 4 => TX4
  | 5 => TX5
  | 6 => TX6
  | 7 => TX7
  | _ => TX8
def yn (ci : Nat) : Nat → FieldType := match ci with
  | 0 => tyX0
  | 1 => tyX1
  | 2 => tyX2
  | 3 => tyX3
  | 4 => tyX4
  | 5 => tyX5
  | 6 => tyX6
  | 7 => tyX7
  | _ => tyX8
theorem ci_9 {P : Nat → Prop} (h0 : P 0) (h1 : P 1) (h2 : P 2) (h3 : P 3) (h4 : P 4) (h5 : P 5) (h6 : P 6) (h7 : P 7) (h8 : P 8) {i : Nat} (hi : i < 9) : P i := by
  match i, hi with
  | 0, _ => exact h0
  | 1, _ => exact h1
  | 2, _ => exact h2
  | 3, _ => exact h3
  | 4, _ => exact h4
  | 5, _ => exact h5
  | 6, _ => exact h6
  | 7, _ => exact h7
  | 8, _ => exact h8
  | n + 9, h => exact absurd h (by omega)
abbrev tbl : List Cond := lw_tbl.filter mov
theorem cl_at {ci : Nat} (h : ci < 9) : vwCl[ci]? = some (Rn ci, Tn ci, cN ci) := ci_9 (P := fun ci => vwCl[ci]? = some (Rn ci, Tn ci, cN ci)) rfl rfl rfl rfl rfl rfl rfl rfl rfl h
theorem lay_mov (C : String) (T : u_T) (N : Nat) : ∀ w ∈ u_ws C T N, mov w = true := by
  intro w hw
  obtain ⟨k, -, rfl⟩ := List.mem_map.mp hw
  unfold u_lay
  split <;> rfl
theorem cl_in {ci : Nat} (h : ci < 9) : ∀ w ∈ u_ws (Rn ci) (Tn ci) (cN ci), w ∈ tbl := fun w hw =>
  List.mem_filter.mpr ⟨(ci_9 (P := fun ci => ∀ w ∈ u_ws (Rn ci) (Tn ci) (cN ci), w ∈ lw_tbl) inX0 inX1 inX2 inX3 inX4 inX5 inX6 inX7 inX8 h) w hw, lay_mov _ _ _ w hw⟩
theorem cl_ty {ci : Nat} (h : ci < 9) : ∀ k, k < cN ci → parseFieldDescriptor (Tn ci k).2.2.1 = some (yn ci k) :=
  ci_9 (P := fun ci => ∀ k, k < cN ci → parseFieldDescriptor (Tn ci k).2.2.1 = some (yn ci k)) tyX0_ok tyX1_ok tyX2_ok tyX3_ok tyX4_ok tyX5_ok tyX6_ok tyX7_ok tyX8_ok h
theorem cl_nm {ci : Nat} (h : ci < 9) : ∀ a, a < cN ci → ∀ b, b < cN ci → a ≠ b → (Tn ci a).2.1 ≠ (Tn ci b).2.1 :=
  ci_9 (P := fun ci => ∀ a, a < cN ci → ∀ b, b < cN ci → a ≠ b → (Tn ci a).2.1 ≠ (Tn ci b).2.1) nmX0 nmX1 nmX2 nmX3 nmX4 nmX5 nmX6 nmX7 nmX8 h
theorem KK.ts {Y : SY} {U : State} (h : KK Y U) (a : Array Value) : ∀ w ∈ tbl, w.before a U = true := fun w hw => h.2.1 a w (List.mem_filter.mp hw).1 (List.mem_filter.mp hw).2
/-- a field's link: own's entry idx is field fi of class ci, of its own class or of a nest mate's -/
def fL (own : String) (idx ci fi : Nat) : Prop := ci < 9 ∧ fi < cN ci ∧ (Cond.fieldLink own idx (Tn ci fi).1 (Tn ci fi).2.1 (Tn ci fi).2.2.1 ∈ lw_tbl ∨ Cond.fieldLinkNest own idx (Tn ci fi).1 (Tn ci fi).2.1 (Tn ci fi).2.2.1 "PatchBench" ∈ lw_tbl)
def mI (I : Nat → Nat → Int) (a i : Nat) (z : Int) : Nat → Nat → Int := fun b => if b = a then (fun j => if j = i then z else I a j) else I b
def mP (P : Nat → Nat → Option Nat) (a i : Nat) (z : Option Nat) : Nat → Nat → Option Nat := fun b => if b = a then (fun j => if j = i then z else P a j) else P b
theorem mI_eq {I : Nat → Nat → Int} {a i : Nat} {z : Int} : mI I a i z a i = z := by simp [mI]
theorem mI_ne {I : Nat → Nat → Int} {a i b : Nat} {z : Int} (h : b ≠ a) : mI I a i z b = I b := by simp [mI, h]
theorem mI_nj {I : Nat → Nat → Int} {a i j : Nat} {z : Int} (h : j ≠ i) : mI I a i z a j = I a j := by simp [mI, h]
theorem mI_row {I : Nat → Nat → Int} {a i j : Nat} {z : Int} : mI I a i z a j = if j = i then z else I a j := by simp [mI]
theorem mP_ne {I : Nat → Nat → Option Nat} {a i b : Nat} {z : Option Nat} (h : b ≠ a) : mP I a i z b = I b := by simp [mP, h]
theorem mP_row {I : Nat → Nat → Option Nat} {a i j : Nat} {z : Option Nat} : mP I a i z a j = if j = i then z else I a j := by simp [mP]
theorem mI_mI {I : Nat → Nat → Int} {a i : Nat} {z w : Int} : mI (mI I a i z) a i w = mI I a i w := by
  funext b j
  simp only [mI]
  split
  · by_cases hj : j = i <;> simp [hj]
  · rfl
section MEM
variable {Y : SY} {T L : Nat → Nat} {P P' : Nat → Nat → Option Nat} {I I' : Nat → Nat → Int} {hn : Nat} {H H' : Heap}
theorem HR.lt (h : HR Y T L P I hn H) {k : Nat} (hk : T k ≠ 99) : k < 3 + hn := by
  rcases Nat.lt_or_ge k (3 + hn) with q | q
  · exact q
  · exact absurd (h.2.2.1 k q) hk
theorem HR.ge (h : HR Y T L P I hn H) {k : Nat} (hk : T k ≠ 15) : 3 ≤ k := by
  rcases Nat.lt_or_ge k 3 with q | q
  · exact absurd (h.2.2.2.2.2 k q).1 hk
  · exact q
theorem HR.obj (h : HR Y T L P I hn H) {k ci : Nat} (hT : T k = ci) (hci : ci < 9) : va_at (yD Y) vwCl (ad Y k, .inr (ci, (List.range (cN ci)).map (fV Y P I ci k))) H := by
  have h1 := h.2.1 k (h.ge (by omega)) (h.lt (by omega))
  rw [cE, hT, if_pos hci] at h1
  exact h1
theorem HR.arr (h : HR Y T L P I hn H) {k t : Nat} (hT : T k = t) (h9 : 9 ≤ t) (h13 : t < 13) : H[ad Y k]? = some (vp_cell (yC Y t) (L k, .inl (fun j => Int32.ofInt (I k j)))) := by
  have h1 := h.2.1 k (h.ge (by omega)) (h.lt (by omega))
  rw [cE, hT, if_neg (by omega), if_pos h13] at h1
  exact h1
theorem HR.rar (h : HR Y T L P I hn H) {k t : Nat} (hT : T k = t) (h13 : 13 ≤ t) (h15 : t < 15) : H[ad Y k]? = some (vp_cell (yC Y t) (L k, .inr (.inr (.inr (.inr (fun j => (P k j).map (ad Y))))))) := by
  have h1 := h.2.1 k (h.ge (by omega)) (h.lt (by omega))
  rw [cE, hT, if_neg (by omega), if_neg (by omega)] at h1
  exact h1
theorem HR.upd (h : HR Y T L P I hn H) {k : Nat} (h3 : 3 ≤ k) (e2 : H'.size = H.size) (e3 : ∀ q, q ≠ ad Y k → H'[q]? = H[q]?) (hI : ∀ j, j ≠ k → I' j = I j) (hP : ∀ j, j ≠ k → P' j = P j) (hg : ∀ i, rg (I' k i)) (hc : va_at (yD Y) vwCl (ad Y k, cE Y T L P' I' k) H') : HR Y T L P' I' hn H' := by
  obtain ⟨a1, a2, a3, a4, a5, a6⟩ := h
  refine ⟨e2.trans a1, fun j hj hj2 => ?_, a3, a4, fun j i => ?_, fun j hj => ?_⟩
  · by_cases hjk : j = k
    · subst hjk; exact hc
    · have hne : ad Y j ≠ ad Y k := by rw [ad_hi Y hj, ad_hi Y h3]; omega
      have e : cE Y T L P' I' j = cE Y T L P I j := by
        have q1 : fV Y P' I' (T j) j = fV Y P I (T j) j := by funext i; simp only [fV, hI j hjk, hP j hjk]
        simp only [cE, q1, hI j hjk, hP j hjk]
      rw [e]
      exact (a2 j hj hj2).kept (e3 _ hne)
  · by_cases hjk : j = k
    · subst hjk; exact hg i
    · rw [hI j hjk]; exact a5 j i
  · have hjk : j ≠ k := by omega
    rw [hI j hjk]; exact a6 j hj
theorem HR.updI (h : HR Y T L P I hn H) {k i : Nat} {z : Int} (h3 : 3 ≤ k) (e2 : H'.size = H.size) (e3 : ∀ q, q ≠ ad Y k → H'[q]? = H[q]?) (hz : rg z) (hc : va_at (yD Y) vwCl (ad Y k, cE Y T L P (mI I k i z) k) H') : HR Y T L P (mI I k i z) hn H' := by
  refine h.upd h3 e2 e3 (fun j hj => mI_ne hj) (fun _ _ => rfl) (fun j => ?_) hc
  rw [mI_row]
  split
  · exact hz
  · exact h.2.2.2.2.1 k j
theorem HR.updP (h : HR Y T L P I hn H) {k i : Nat} {z : Option Nat} (h3 : 3 ≤ k) (e2 : H'.size = H.size) (e3 : ∀ q, q ≠ ad Y k → H'[q]? = H[q]?) (hc : va_at (yD Y) vwCl (ad Y k, cE Y T L (mP P k i z) I k) H') : HR Y T L (mP P k i z) I hn H' :=
  h.upd h3 e2 e3 (fun _ _ => rfl) (fun j hj => mP_ne hj) (fun j => h.2.2.2.2.1 k j) hc
/-- a new cell behind the others -/
theorem HR.new (h : HR Y T L P I hn H) {t n : Nat} (ht : t ≠ 15) (e2 : H'.size = H.size + 1) (e3 : ∀ q, q < H.size → H'[q]? = H[q]?) (hc : va_at (yD Y) vwCl (ad Y (3 + hn), cE Y (va_up T (3 + hn) t) (va_up L (3 + hn) n) (va_up P (3 + hn) (fun _ => none)) (va_up I (3 + hn) (fun _ => 0)) (3 + hn)) H') : HR Y (va_up T (3 + hn) t) (va_up L (3 + hn) n) (va_up P (3 + hn) (fun _ => none)) (va_up I (3 + hn) (fun _ => 0)) (hn + 1) H' := by
  obtain ⟨a1, a2, a3, a4, a5, a6⟩ := h
  refine ⟨by omega, fun j hj hj2 => ?_, fun j hj => ?_, fun j hj => ?_, fun j i => ?_, fun j hj => ?_⟩
  · by_cases hjk : j = 3 + hn
    · subst hjk; exact hc
    · have e : cE Y (va_up T (3 + hn) t) (va_up L (3 + hn) n) (va_up P (3 + hn) (fun _ => none)) (va_up I (3 + hn) (fun _ => 0)) j = cE Y T L P I j := by
        have q1 : ∀ ci, fV Y (va_up P (3 + hn) (fun _ => none)) (va_up I (3 + hn) (fun _ => 0)) ci j = fV Y P I ci j := by intro ci; funext i; simp only [fV, va_up, if_neg hjk]
        simp only [cE, q1, va_up, if_neg hjk]
      rw [e]
      have h4 := a2 j hj (by omega)
      exact h4.kept (e3 _ h4.lt)
  · rw [va_up, if_neg (by omega)]; exact a3 j (by omega)
  · rw [va_up]
    split
    · exact ht
    · exact a4 j hj
  · rw [va_up]
    split
    · exact rg0
    · exact a5 j i
  · have q : j ≠ 3 + hn := by omega
    simp only [va_up, if_neg q]
    exact a6 j hj
theorem va_P1 {D : va_G} {cl : List vw_C} {q : Nat × va_E} (h : va_at D cl q H) : va_P D cl [q] H := by
  intro k x hx
  cases k with
  | zero => cases hx; exact h
  | succ k => simp at hx
theorem fV_at {ci k fi : Nat} (hN : fi < cN ci) : ((List.range (cN ci)).map (fV Y P I ci k))[fi]? = some (fV Y P I ci k fi) := by
  rw [List.getElem?_map, List.getElem?_range hN]; rfl
theorem fV_set {f g : Nat → Value} {N fi : Nat} (hg : ∀ j, j ≠ fi → g j = f j) : ((List.range N).map f).set fi (g fi) = (List.range N).map g := by
  apply List.ext_getElem?
  intro j
  by_cases h : fi = j
  · subst h
    rw [List.getElem?_set_self']
    by_cases hl : fi < N
    · simp [hl]
    · simp [hl]
  · rw [List.getElem?_set_ne h, List.getElem?_map, List.getElem?_map]
    by_cases hl : j < N
    · rw [List.getElem?_range hl]; simp [hg j (Ne.symm h)]
    · simp [hl]
end MEM
end
section
section MROW
variable {X : Cx} {Y : SY} {Q : State → Prop} {cells slots pc : Nat} {ls : List (Option PV)} {st : List PV} {T L : Nat → Nat} {P : Nat → Nat → Option Nat} {I : Nat → Nat → Int} {hn : Nat} {cc : ByteArray} {own : String} {nL : Nat} {ret : Option FieldType} {R : Room} {nm : String}
theorem OK.w (K : OK X Y cc own nL ret R nm) {w : Cond} (h : w ∈ lw_tbl) (hm : mov w = true) {a : Array Value} : w.before a (xs X) = true := K.2.2.2.2.1.2.1 a w h hm
theorem r_getV (K : OK X Y cc own nL ret R nm) {k ci fi idx : Nat} (hd : decode cc pc = .ok (.getfield idx, 3)) (hl : fL own idx ci fi) (hT : T k = ci) (kk : ∀ (H : Heap) (locs : List Loc) (la : Array Slot), HR Y T L P I hn H → va_S (yA Y) (xs X).heap H locs → LH Y la (xc X).maxLocals ls → (∀ v ∈ st, vg v) → W (xp X) (xl X) (xe X) (xR X) (xs X) (xm X) (xa X) (xb X) (xh X) (xc X) H locs cells slots Q (F0 (xm X) (pc + 3) la (fV Y P I ci k fi :: st.map (eV Y)))) : RR X Y Q cells slots pc ls (.inr (some k) :: st) T L P I hn := by
  obtain ⟨hci, hN, hlk⟩ := hl
  intro H locs la hH hS hL hV
  rcases hlk with hlk | hlk
  · exact va_get (D := yD Y) (Ts := tbl) K.1 K.2.1 (K.2.2.2.2.1.ts _) (cl_in hci) K.2.2.2.1 K.2.2.2.2.1.1 (va_P1 (hH.obj hT hci)) 0 rfl (cl_at hci) fi hN (K.w hlk rfl) (fun _ h => h) (fV_at hN) hd (kk H locs la hH hS hL (vtail hV))
  · exact va_getN (D := yD Y) (Ts := tbl) K.1 K.2.1 (K.2.2.2.2.1.ts _) (cl_in hci) K.2.2.2.1 K.2.2.2.2.1.1 (va_P1 (hH.obj hT hci)) 0 rfl (cl_at hci) fi hN (K.w hlk rfl) (fun _ h => h) (fV_at hN) hd (kk H locs la hH hS hL (vtail hV))
theorem r_getI (K : OK X Y cc own nL ret R nm) {k ci fi idx : Nat} (hd : decode cc pc = .ok (.getfield idx, 3)) (hl : fL own idx ci fi) (hf : fR ci fi = false) (hT : T k = ci) (kk : RR X Y Q cells slots (pc + 3) ls (.inl (I k fi) :: st) T L P I hn) : RR X Y Q cells slots pc ls (.inr (some k) :: st) T L P I hn :=
  r_getV K hd hl hT (fun H locs la hH hS hL hV => by
    have e : fV Y P I ci k fi = eV Y (.inl (I k fi)) := by simp [fV, hf, eV]
    rw [e]
    exact kk H locs la hH hS hL (vcons (hH.2.2.2.2.1 k fi) hV))
theorem r_getR (K : OK X Y cc own nL ret R nm) {k ci fi idx : Nat} (hd : decode cc pc = .ok (.getfield idx, 3)) (hl : fL own idx ci fi) (hf : fR ci fi = true) (hT : T k = ci) {q : Nat} (hq : P k fi = some q) (kk : RR X Y Q cells slots (pc + 3) ls (.inr (some q) :: st) T L P I hn) : RR X Y Q cells slots pc ls (.inr (some k) :: st) T L P I hn :=
  r_getV K hd hl hT (fun H locs la hH hS hL hV => by
    have e : fV Y P I ci k fi = eV Y (.inr (some q)) := by simp [fV, hf, eV, hq, va_rf]
    rw [e]
    exact kk H locs la hH hS hL (vcons trivial hV))
/-- a field is written: any of its kinds -/
theorem putW {H : Heap} {locs : List Loc} {la : Array Slot} {rest : List Value} (K : OK X Y cc own nL ret R nm) {k ci fi idx : Nat} {v : Value} {fs : List Value} (hd : decode cc pc = .ok (.putfield idx, 3)) (hl : fL own idx ci fi) (hfin : (Tn ci fi).2.2.2 = false ∨ ((Tn ci fi).2.2.2 = true ∧ nm = "<init>" ∧ (Tn ci fi).1 = own ∧ Cond.fieldLink own idx (Tn ci fi).1 (Tn ci fi).2.1 (Tn ci fi).2.2.1 ∈ lw_tbl)) (hn' : narrow (yn ci fi) v = v) (hfit : fits (yn ci fi) v = true) (hA : yA Y (ad Y k)) (hS : va_S (yA Y) (xs X).heap H locs) (hat : va_at (yD Y) vwCl (ad Y k, .inr (ci, fs)) H) (hlen : fi < fs.length)
    (kk : ∀ (H' : Heap) (locs' : List Loc), va_at (yD Y) vwCl (ad Y k, .inr (ci, fs.set fi v)) H' → H'.size = H.size → (∀ q, q ≠ ad Y k → H'[q]? = H[q]?) → va_S (yA Y) (xs X).heap H' locs' → W (xp X) (xl X) (xe X) (xR X) (xs X) (xm X) (xa X) (xb X) (xh X) (xc X) H' locs' cells slots Q (F0 (xm X) (pc + 3) la rest)) :
    W (xp X) (xl X) (xe X) (xR X) (xs X) (xm X) (xa X) (xb X) (xh X) (xc X) H locs cells slots Q (F0 (xm X) pc la (v :: .ref (ad Y k) :: rest)) := by
  obtain ⟨hci, hN, hlk⟩ := hl
  have hts := K.2.2.2.2.1.ts (xa X)
  have hin := cl_in hci
  have hK := K.2.2.2.2.1.1
  have hc := cl_at hci
  have hap := va_apart (own := own) hts hin (yn ci) (cl_ty hci) (cl_nm hci) hK hc
  obtain ⟨r, h1, cell, q1, q2, q3, q4⟩ := hat
  have hr : r = (Rn ci, Tn ci, cN ci) := Option.some.inj (h1.symm.trans hc)
  subst hr
  obtain ⟨hSl, hfc, kC, hkC, hkind⟩ := hK.1 ci _ hc
  obtain ⟨cf, kf, ff, f, hi, hsl⟩ := hSl fi hN
  have hlay := hts _ (hin _ (u_in_lay hN))
  unfold u_lay at hlay
  have hst := (u_facts hfc hkC (u_lays hts hin hN) hi).1
  have fin : ∀ H' : Heap, H'[ad Y k]? = some (cell.setSlot f.slot v) → H'.size = H.size → (∀ q, q ≠ ad Y k → H'[q]? = H[q]?) → W (xp X) (xl X) (xe X) (xR X) (xs X) (xm X) (xa X) (xb X) (xh X) (xc X) H' (locs ++ [⟨ad Y k, f.slot⟩]) cells slots Q (F0 (xm X) (pc + 3) la rest) := by
    intro H' e1 e2 e3
    rw [hsl] at e1
    exact kk H' _ ⟨_, hc, t_OB.to (V := updV (vp_V fs) fi v) ⟨_, e1, q2, q3, t_set q4 hap hN v⟩ (fun j _ => vp_updV_set hlen v j)⟩ e2 e3 (hS.put e2 e3 hA)
  rcases hfin with hfin | ⟨hfin, hnm, hdecl, hlk⟩
  · rw [if_neg (by rw [hfin]; decide)] at hlay
    have h6 := u_store hfc hkC hkind hlay hi (cl_ty hci fi hN) hn' hfit
    rcases hlk with hlk | hlk
    · exact W.putK K.1 K.2.1 (f := f) ⟨K.2.2.2.1, K.w hlk rfl, ⟨_, _, _, hi⟩, hst⟩ (by rw [q2]; exact h6) q1 q3 (by rw [hsl]; exact k2_hasslot (q4 fi hN)) rfl rfl hd fin
    · exact va_WputK K.1 K.2.1 (f := f) K.2.2.2.1 (K.w hlk rfl) hi hst (by rw [q2]; exact h6) q1 q3 (by rw [hsl]; exact k2_hasslot (q4 fi hN)) rfl rfl hd fin
  · rw [if_pos hfin] at hlay
    have hcf : (xm X).cls = cf := by
      obtain ⟨_, _, c', _, _, _, -, -, hf', -, -, -, hown2, -⟩ := Cond.laysFinal_spec hlay
      have e1 : c' = cf := by have := hi.symm.trans hf'; simp at this; exact this.1.symm
      rw [hdecl] at hown2
      rw [← e1]; exact Option.some.inj (K.2.2.2.1.symm.trans hown2)
    have h6 := u_fits hfc hkC hkind (Or.inr hlay) hi (cl_ty hci fi hN) hn' hfit
    have hnm2 : (xh X).name = "<init>" := K.2.2.2.2.2.2.2.2.trans hnm
    exact W.putFinK K.1 K.2.1 K.2.2.2.1 (K.w hlk rfl) hi hst hcf hnm2 (by rw [q2]; exact h6) q1 q3 (by rw [hsl]; exact k2_hasslot (q4 fi hN)) rfl rfl hd fin
theorem yA_hi {k : Nat} (h : 3 ≤ k) : yA Y (ad Y k) := by
  rw [ad_hi Y h]; show yB Y ≤ _; omega
theorem cE_obj {k ci : Nat} (hT : T k = ci) (hci : ci < 9) : cE Y T L P I k = .inr (ci, (List.range (cN ci)).map (fV Y P I ci k)) := by rw [cE, hT, if_pos hci]
theorem cE_arr {k t : Nat} (hT : T k = t) (h9 : 9 ≤ t) (h13 : t < 13) : cE Y T L P I k = .inl (yC Y t, L k, .inl (fun j => Int32.ofInt (I k j))) := by rw [cE, hT, if_neg (by omega), if_pos h13]
theorem cE_rar {k t : Nat} (hT : T k = t) (h13 : 13 ≤ t) : cE Y T L P I k = .inl (yC Y t, L k, .inr (.inr (.inr (.inr (fun j => (P k j).map (ad Y)))))) := by rw [cE, hT, if_neg (by omega), if_neg (by omega)]
/-- a whole number's field is written -/
theorem r_putI (K : OK X Y cc own nL ret R nm) {k ci fi idx : Nat} {z : Int} (hd : decode cc pc = .ok (.putfield idx, 3)) (hl : fL own idx ci fi) (hf : fR ci fi = false) (hfin : (Tn ci fi).2.2.2 = false) (hty : yn ci fi = .int ∨ (yn ci fi = .boolean ∧ (z = 0 ∨ z = 1))) (hT : T k = ci) (kk : RR X Y Q cells slots (pc + 3) ls st T L P (mI I k fi z) hn) : RR X Y Q cells slots pc ls (.inl z :: .inr (some k) :: st) T L P I hn := by
  intro H locs la hH hS hL hV
  have hci := hl.1
  have hN := hl.2.1
  have h3 : 3 ≤ k := hH.ge (by omega)
  have hz := vh hV
  have hnf : narrow (yn ci fi) (.int (Int32.ofInt z)) = .int (Int32.ofInt z) ∧ fits (yn ci fi) (.int (Int32.ofInt z)) = true := by
    rcases hty with e | ⟨e, rfl | rfl⟩
    · rw [e]; exact ⟨rfl, rfl⟩
    · rw [e]; exact ⟨rfl, rfl⟩
    · rw [e]; exact ⟨rfl, rfl⟩
  refine putW K hd hl (Or.inl hfin) hnf.1 hnf.2 (yA_hi h3) hS (hH.obj hT hci) (by simpa using hN) fun H' locs' c1 c2 c3 c4 => ?_
  refine kk H' locs' la (hH.updI h3 c2 c3 hz ?_) c4 hL (vtail (vtail hV))
  rw [cE_obj hT hci]
  have e : (List.range (cN ci)).map (fV Y P (mI I k fi z) ci k) = ((List.range (cN ci)).map (fV Y P I ci k)).set fi (.int (Int32.ofInt z)) := by
    have e0 : fV Y P (mI I k fi z) ci k fi = .int (Int32.ofInt z) := by simp [fV, hf, mI_eq]
    rw [← e0]
    refine (fV_set fun j hj => ?_).symm
    simp only [fV, mI_nj hj]
  rw [e]
  exact c1
/-- a reference's field is written, in its class's constructor -/
theorem r_putR (K : OK X Y cc own nL ret R nm) {k ci fi idx q : Nat} (hd : decode cc pc = .ok (.putfield idx, 3)) (hl : fL own idx ci fi) (hf : fR ci fi = true) (hfin : (Tn ci fi).2.2.2 = true ∧ nm = "<init>" ∧ (Tn ci fi).1 = own ∧ Cond.fieldLink own idx (Tn ci fi).1 (Tn ci fi).2.1 (Tn ci fi).2.2.1 ∈ lw_tbl) (hty : narrow (yn ci fi) (.ref (ad Y q)) = .ref (ad Y q) ∧ fits (yn ci fi) (.ref (ad Y q)) = true) (hT : T k = ci) (kk : RR X Y Q cells slots (pc + 3) ls st T L (mP P k fi (some q)) I hn) : RR X Y Q cells slots pc ls (.inr (some q) :: .inr (some k) :: st) T L P I hn := by
  intro H locs la hH hS hL hV
  have hci := hl.1
  have hN := hl.2.1
  have h3 : 3 ≤ k := hH.ge (by omega)
  refine putW K hd hl (Or.inr hfin) hty.1 hty.2 (yA_hi h3) hS (hH.obj hT hci) (by simpa using hN) fun H' locs' c1 c2 c3 c4 => ?_
  refine kk H' locs' la (hH.updP h3 c2 c3 ?_) c4 hL (vtail (vtail hV))
  rw [cE_obj hT hci]
  have e : (List.range (cN ci)).map (fV Y (mP P k fi (some q)) I ci k) = ((List.range (cN ci)).map (fV Y P I ci k)).set fi (.ref (ad Y q)) := by
    have e0 : fV Y (mP P k fi (some q)) I ci k fi = .ref (ad Y q) := by simp [fV, hf, mP_row, va_rf]
    rw [← e0]
    refine (fV_set fun j hj => ?_).symm
    simp only [fV, mP_row, if_neg hj]
  rw [e]
  exact c1
theorem KK.tys {U : State} (h : KK Y U) : va_K (yD Y) vwCl [(yC Y 10, .int), (yC Y 11, .byte), (yC Y 12, .boolean), (yC Y 13, .object RX0), (yC Y 14, .object RX3)] U := h.1
theorem r_iald (K : OK X Y cc own nL ret R nm) {k : Nat} {i : Int} (hd : decode cc pc = .ok (.iaload, 1)) (hT : T k = 10) (h0 : 0 ≤ i) (h1 : i < L k) (kk : RR X Y Q cells slots (pc + 1) ls (.inl (I k i.toNat) :: st) T L P I hn) : RR X Y Q cells slots pc ls (.inl i :: .inr (some k) :: st) T L P I hn := by
  intro H locs la hH hS hL hV
  have hi := vh hV
  refine va_iald K.1 K.2.1 K.2.2.2.2.1.1 (va_P1 (q := (ad Y k, .inl (yC Y 10, L k, .inl (fun j => Int32.ofInt (I k j))))) (hH.arr hT (by decide) (by decide))) 0 0 rfl rfl (oi_in hi h0 h1) hd ?_
  rw [oi_cl hi]
  exact kk H locs la hH hS hL (vcons (hH.2.2.2.2.1 k _) (vtail (vtail hV)))
theorem r_bald (K : OK X Y cc own nL ret R nm) {k : Nat} {i : Int} (hd : decode cc pc = .ok (.baload, 1)) (hT : T k = 11) (h0 : 0 ≤ i) (h1 : i < L k) (kk : RR X Y Q cells slots (pc + 1) ls (.inl (I k i.toNat) :: st) T L P I hn) : RR X Y Q cells slots pc ls (.inl i :: .inr (some k) :: st) T L P I hn := by
  intro H locs la hH hS hL hV
  have hi := vh hV
  refine va_bald K.1 K.2.1 K.2.2.2.2.1.1 (va_P1 (q := (ad Y k, .inl (yC Y 11, L k, .inl (fun j => Int32.ofInt (I k j))))) (hH.arr hT (by decide) (by decide))) 0 1 rfl rfl (oi_in hi h0 h1) hd ?_
  rw [oi_cl hi]
  exact kk H locs la hH hS hL (vcons (hH.2.2.2.2.1 k _) (vtail (vtail hV)))
theorem r_zald (K : OK X Y cc own nL ret R nm) {k : Nat} {i : Int} (hd : decode cc pc = .ok (.baload, 1)) (hT : T k = 12) (h0 : 0 ≤ i) (h1 : i < L k) (kk : RR X Y Q cells slots (pc + 1) ls (.inl (I k i.toNat) :: st) T L P I hn) : RR X Y Q cells slots pc ls (.inl i :: .inr (some k) :: st) T L P I hn := by
  intro H locs la hH hS hL hV
  have hi := vh hV
  refine va_zald K.1 K.2.1 K.2.2.2.2.1.1 (va_P1 (q := (ad Y k, .inl (yC Y 12, L k, .inl (fun j => Int32.ofInt (I k j))))) (hH.arr hT (by decide) (by decide))) 0 2 rfl rfl (oi_in hi h0 h1) hd ?_
  rw [oi_cl hi]
  exact kk H locs la hH hS hL (vcons (hH.2.2.2.2.1 k _) (vtail (vtail hV)))
/-- the script's, the two tables' -/
theorem r_oald (K : OK X Y cc own nL ret R nm) {k : Nat} {i : Int} (hd : decode cc pc = .ok (.iaload, 1)) (hk : k < 3) (h0 : 0 ≤ i) (h1 : i < L k) (kk : RR X Y Q cells slots (pc + 1) ls (.inl (I k i.toNat) :: st) T L P I hn) : RR X Y Q cells slots pc ls (.inl i :: .inr (some k) :: st) T L P I hn := by
  intro H locs la hH hS hL hV
  have hi := vh hV
  obtain ⟨e1, e2, e3⟩ := hH.2.2.2.2.2 k hk
  have had : ad Y k = ySp Y k := if_pos hk
  obtain ⟨cell, c1, c2, c3, c4, c5, c6, c7⟩ := K.2.2.2.2.1.2.2.2.1 k hk
  have hlt : i.toNat < yL Y k := by omega
  refine W.iald (a := ad Y k) (cell := cell) (v := .int (Int32.ofInt (yI Y k i.toNat))) K.1 K.2.1 ?_ c2 c3 ?_ ?_ rfl rfl hd ?_
  · rw [had, hS.2.1 _ (Array.getElem?_eq_some_iff.mp c1).1 c7]; exact c1
  · rw [oi_cl hi]
    have h2 : ¬ Int32.ofInt i < 0 := by rw [← oi_0, oi_lt hi rg0]; omega
    intro h
    rcases h with h | h
    · exact h2 h
    · omega
  · rw [oi_cl hi]; exact c6 _ hlt
  · rw [← e3]
    exact kk H locs la hH hS hL (vcons (hH.2.2.2.2.1 k _) (vtail (vtail hV)))
theorem r_aald (K : OK X Y cc own nL ret R nm) {k : Nat} {i : Int} (hd : decode cc pc = .ok (.aaload, 1)) (hT : T k = 13 ∨ T k = 14) (h0 : 0 ≤ i) (h1 : i < L k) (kk : RR X Y Q cells slots (pc + 1) ls (.inr (P k i.toNat) :: st) T L P I hn) : RR X Y Q cells slots pc ls (.inl i :: .inr (some k) :: st) T L P I hn := by
  intro H locs la hH hS hL hV
  have hi := vh hV
  have e : va_rf ((P k i.toNat).map (ad Y)) = eV Y (.inr (P k i.toNat)) := by
    cases P k i.toNat <;> rfl
  rcases hT with hT | hT
  · refine va_aldq K.1 K.2.1 K.2.2.2.2.1.1 (va_P1 (q := (ad Y k, .inl (yC Y 13, L k, .inr (.inr (.inr (.inr (fun j => (P k j).map (ad Y)))))))) (hH.rar hT (by decide) (by decide))) 0 3 rfl rfl (oi_in hi h0 h1) hd ?_
    rw [oi_cl hi, e]
    exact kk H locs la hH hS hL (vcons trivial (vtail (vtail hV)))
  · refine va_aldq K.1 K.2.1 K.2.2.2.2.1.1 (va_P1 (q := (ad Y k, .inl (yC Y 14, L k, .inr (.inr (.inr (.inr (fun j => (P k j).map (ad Y)))))))) (hH.rar hT (by decide) (by decide))) 0 4 rfl rfl (oi_in hi h0 h1) hd ?_
    rw [oi_cl hi, e]
    exact kk H locs la hH hS hL (vcons trivial (vtail (vtail hV)))
end MROW
end
section
section STOR
variable {X : Cx} {Y : SY} {Q : State → Prop} {cells slots pc : Nat} {ls : List (Option PV)} {st : List PV} {T L : Nat → Nat} {P : Nat → Nat → Option Nat} {I : Nat → Nat → Int} {hn : Nat} {cc : ByteArray} {own : String} {nL : Nat} {ret : Option FieldType} {R : Room} {nm : String}
theorem cell_up {cA : ClassId} {n i : Nat} {I : Nat → Nat → Int} {k : Nat} {z : Int} {v : Int32} (hv : v = Int32.ofInt z) : (vp_cell cA (n, .inl (fun j => Int32.ofInt (I k j)))).setSlot i (.int v) = vp_cell cA (n, .inl (fun j => Int32.ofInt (mI I k i z k j))) := by
  rw [vp_cell_i, vp_cell_i, arrV_store]
  congr 2
  funext q
  subst hv
  by_cases hq : q = i
  · subst hq; simp [updV, mI_row]
  · simp [updV, mI_row, hq]
theorem r_iast (K : OK X Y cc own nL ret R nm) {k : Nat} {i z : Int} (hd : decode cc pc = .ok (.iastore, 1)) (hT : T k = 10) (h0 : 0 ≤ i) (h1 : i < L k) (kk : RR X Y Q cells slots (pc + 1) ls st T L P (mI I k i.toNat z) hn) : RR X Y Q cells slots pc ls (.inl z :: .inl i :: .inr (some k) :: st) T L P I hn := by
  intro H locs la hH hS hL hV
  have hz := vh hV
  have hi := vh (vtail hV)
  have h3 : 3 ≤ k := hH.ge (by omega)
  refine W.iast K.1 K.2.1 (hH.arr hT (by decide) (by decide)) ((K.2.2.2.2.1.1.2 0 _ rfl).1 (L k) (fun j => .int (Int32.ofInt (I k j)))) (fun q => by cases q) (by show ¬ (_ ∨ (arrV _ _ _).slots.size ≤ _); rw [arrV_size]; exact oi_in hi h0 h1) rfl rfl hd fun H1 e z oq => ?_
  rw [oi_cl hi, cell_up rfl] at e
  refine kk H1 _ la (hH.updI h3 z oq hz ?_) (hS.put z oq (yA_hi h3)) hL (vtail (vtail (vtail hV)))
  rw [cE_arr hT (by decide) (by decide)]
  exact e
theorem r_bast (K : OK X Y cc own nL ret R nm) {k : Nat} {i z : Int} (hd : decode cc pc = .ok (.bastore, 1)) (hT : T k = 11) (h0 : 0 ≤ i) (h1 : i < L k) (kk : RR X Y Q cells slots (pc + 1) ls st T L P (mI I k i.toNat (zByte z)) hn) : RR X Y Q cells slots pc ls (.inl z :: .inl i :: .inr (some k) :: st) T L P I hn := by
  intro H locs la hH hS hL hV
  have hz := vh hV
  have hi := vh (vtail hV)
  have h3 : 3 ≤ k := hH.ge (by omega)
  refine W.bast K.1 K.2.1 (hH.arr hT (by decide) (by decide)) ((K.2.2.2.2.1.1.2 1 _ rfl).1 (L k) (fun j => .int (Int32.ofInt (I k j)))) (fun q => by cases q) (by show ¬ (_ ∨ (arrV _ _ _).slots.size ≤ _); rw [arrV_size]; exact oi_in hi h0 h1) rfl rfl hd fun H1 e z oq => ?_
  rw [oi_cl hi] at e
  refine kk H1 _ la (hH.updI h3 z oq (rg_of _) ?_) (hS.put z oq (yA_hi h3)) hL (vtail (vtail (vtail hV)))
  rw [cE_arr hT (by decide) (by decide)]
  exact e.trans (congrArg some (cell_up (oi_of _).symm))
theorem r_zast (K : OK X Y cc own nL ret R nm) {k : Nat} {i z : Int} (hd : decode cc pc = .ok (.bastore, 1)) (hT : T k = 12) (h0 : 0 ≤ i) (h1 : i < L k) (h01 : z = 0 ∨ z = 1) (kk : RR X Y Q cells slots (pc + 1) ls st T L P (mI I k i.toNat z) hn) : RR X Y Q cells slots pc ls (.inl z :: .inl i :: .inr (some k) :: st) T L P I hn := by
  intro H locs la hH hS hL hV
  have hz := vh hV
  have hi := vh (vtail hV)
  have h3 : 3 ≤ k := hH.ge (by omega)
  refine W.zast K.1 K.2.1 (hH.arr hT (by decide) (by decide)) ((K.2.2.2.2.1.1.2 2 _ rfl).1 (L k) (fun j => .int (Int32.ofInt (I k j)))) (fun q => by cases q) (by show ¬ (_ ∨ (arrV _ _ _).slots.size ≤ _); rw [arrV_size]; exact oi_in hi h0 h1) rfl rfl hd fun H1 e z oq => ?_
  rw [oi_cl hi] at e
  refine kk H1 _ la (hH.updI h3 z oq hz ?_) (hS.put z oq (yA_hi h3)) hL (vtail (vtail (vtail hV)))
  rw [cE_arr hT (by decide) (by decide)]
  rcases h01 with rfl | rfl
  · exact e.trans (congrArg some (cell_up rfl))
  · exact e.trans (congrArg some (cell_up rfl))
theorem r_aast (K : OK X Y cc own nL ret R nm) {k v : Nat} {i : Int} (hd : decode cc pc = .ok (.aastore, 1)) (hT : (T k = 13 ∧ T v = 0) ∨ (T k = 14 ∧ T v = 3)) (h0 : 0 ≤ i) (h1 : i < L k) (kk : RR X Y Q cells slots (pc + 1) ls st T L (mP P k i.toNat (some v)) I hn) : RR X Y Q cells slots pc ls (.inr (some v) :: .inl i :: .inr (some k) :: st) T L P I hn := by
  intro H locs la hH hS hL hV
  have hi := vh (vtail hV)
  have key : ∀ (t ci j : Nat), T k = t → T v = ci → 13 ≤ t → t < 15 → ci < 9 → (∀ x, x = (yC Y t, FieldType.object (Rn ci)) → [(yC Y 10, FieldType.int), (yC Y 11, .byte), (yC Y 12, .boolean), (yC Y 13, .object RX0), (yC Y 14, .object RX3)][j]? = some x) → W (xp X) (xl X) (xe X) (xR X) (xs X) (xm X) (xa X) (xb X) (xh X) (xc X) H locs cells slots Q (F0 (xm X) pc la (((.inr (some v) :: .inl i :: .inr (some k) :: st) : List PV).map (eV Y))) := by
    intro t ci j hT hv h13 h15 hci hj
    have h3 : 3 ≤ k := hH.ge (by omega)
    have hK := K.2.2.2.2.1.1
    obtain ⟨r', hr', cellV, g1, g2, g3, -⟩ := hH.obj hv hci
    have hcls := (hK.1 ci _ (cl_at hci)).2
    obtain ⟨kA, comp, k1, k2, k3, -⟩ := (hK.2 j _ (hj _ rfl)).2
    have hcomp : comp = (yD Y).1 ci := Option.some.inj (k3.symm.trans hcls.1)
    subst hcomp
    obtain ⟨kC, hkC, -⟩ := hcls.2
    refine W.aast K.1 K.2.1 (hH.rar hT h13 h15) (fun q h => by cases h) (fun h => by cases h) k1 k2 rfl hkC ⟨by rw [← oi_0, oi_lt hi rg0]; omega, by show _ < (arrV _ _ _).slots.size; rw [arrV_size, oi_cl hi]; omega⟩ g1 (fun q h => by rw [g3] at h; cases h) (by rw [g2]; exact hkC) (by rw [g2]; exact va_assign hcls) rfl rfl hd fun H1 e z oq => ?_
    refine kk H1 _ la (hH.updP h3 z oq ?_) (hS.put z oq (yA_hi h3)) hL (vtail (vtail (vtail hV)))
    rw [cE_rar hT h13]
    show H1[ad Y k]? = some (vp_cell _ _)
    rw [e, oi_cl hi, vp_cell_q, vp_cell_q, arrV_store]
    congr 2
    funext q
    by_cases hq : q = i.toNat
    · subst hq
      simp [updV, mP_row, va_rf]
    · simp [updV, mP_row, hq]
  rcases hT with ⟨h1, h2⟩ | ⟨h1, h2⟩
  · exact key 13 0 3 h1 h2 (by decide) (by decide) (by decide) (fun x hx => by subst hx; rfl)
  · exact key 14 3 4 h1 h2 (by decide) (by decide) (by decide) (fun x hx => by subst hx; rfl)
theorem r_alen (K : OK X Y cc own nL ret R nm) {k : Nat} (hd : decode cc pc = .ok (.arraylength, 1)) (hT : T k = 10) (hl : L k < 2147483648) (kk : RR X Y Q cells slots (pc + 1) ls (.inl (L k) :: st) T L P I hn) : RR X Y Q cells slots pc ls (.inr (some k) :: st) T L P I hn := by
  intro H locs la hH hS hL hV
  refine va_alen K.1 K.2.1 K.2.2.2.2.1.1 (va_P1 (q := (ad Y k, .inl (yC Y 10, L k, .inl (fun j => Int32.ofInt (I k j))))) (hH.arr hT (by decide) (by decide))) 0 0 rfl rfl rfl hd ?_
  exact kk H locs la hH hS hL (vcons (show rg _ from ⟨by omega, by omega⟩) (vtail hV))
theorem r_olen (K : OK X Y cc own nL ret R nm) {k : Nat} (hd : decode cc pc = .ok (.arraylength, 1)) (hk : k < 3) (kk : RR X Y Q cells slots (pc + 1) ls (.inl (L k) :: st) T L P I hn) : RR X Y Q cells slots pc ls (.inr (some k) :: st) T L P I hn := by
  intro H locs la hH hS hL hV
  obtain ⟨e1, e2, e3⟩ := hH.2.2.2.2.2 k hk
  have had : ad Y k = ySp Y k := if_pos hk
  obtain ⟨cell, c1, c2, c3, c4, c5, c6, c7⟩ := K.2.2.2.2.1.2.2.2.1 k hk
  have hl := K.2.2.2.2.1.2.2.2.2.1 k hk
  refine W.alen (a := ad Y k) (cell := cell) (n := Int32.ofNat (yL Y k)) K.1 K.2.1 (by rw [had, hS.2.1 _ (Array.getElem?_eq_some_iff.mp c1).1 c7]; exact c1) c2 c5 rfl rfl hd ?_
  rw [← e2]
  exact kk H locs la hH hS hL (vcons (show rg _ from ⟨by omega, by omega⟩) (vtail hV))
theorem ad_new {H : Heap} (h : HR Y T L P I hn H) : H.size = ad Y (3 + hn) := by
  rw [ad_hi Y (by omega), h.1]; omega
/-- a new array of whole numbers: t is 10, 11 or 12 -/
theorem r_newa (K : OK X Y cc own nL ret R nm) {at_ : ArrayType} {t : Nat} {n : Int} (hd : decode cc pc = .ok (.newarray at_, 2)) (ht : (at_ = .int ∧ t = 10) ∨ (at_ = .byte ∧ t = 11) ∨ (at_ = .boolean ∧ t = 12)) (hw : Cond.arrayClass (newarray.typeOf at_) ∈ lw_tbl) (h0 : 0 ≤ n) (h1 : n ≤ 100000) (hc : cells + 1 ≤ R.cells) (hs : slots + n.toNat ≤ R.slots)
    (kk : RR X Y Q (cells + 1) (slots + n.toNat) (pc + 2) ls (.inr (some (3 + hn)) :: st) (va_up T (3 + hn) t) (va_up L (3 + hn) n.toNat) (va_up P (3 + hn) (fun _ => none)) (va_up I (3 + hn) (fun _ => 0)) (hn + 1)) : RR X Y Q cells slots pc ls (.inl n :: st) T L P I hn := by
  intro H locs la hH hS hL hV
  have hi := vh hV
  have hR : xR X = R := K.2.2.2.2.2.2.2.1
  have hn0 : ¬ Int32.ofInt n < 0 := by rw [← oi_0, oi_lt hi rg0]; omega
  have hcb : componentBytes (newarray.typeOf at_) ≤ 4 := by rcases ht with ⟨rfl, -⟩ | ⟨rfl, -⟩ | ⟨rfl, -⟩ <;> decide
  have hb : n.toNat * componentBytes (newarray.typeOf at_) ≤ 536870912 := Nat.le_trans (Nat.mul_le_mul_left _ hcb) (by omega)
  refine va_newaK K.1 K.2.1 (K.w hw rfl) rfl hd rfl hn0 (oi_cl hi) hb (by rw [hR]; exact hc) (by rw [hR]; exact hs) (ad_new hH) fun H' cA c1 c2 c3 c4 c5 => ?_
  have z2 : H'.size = H.size + 1 := by rw [c2, ad_new hH]
  have o2 : ∀ q, q < H.size → H'[q]? = H[q]? := fun q hq => c3 q (by rw [← ad_new hH]; exact hq)
  refine kk H' locs la (hH.new (by rcases ht with ⟨-, rfl⟩ | ⟨-, rfl⟩ | ⟨-, rfl⟩ <;> decide) z2 o2 ?_) ⟨by rw [z2]; exact Nat.le_succ_of_le hS.1, fun q g1 g2 => (o2 q (Nat.lt_of_lt_of_le g1 hS.1)).trans (hS.2.1 q g1 g2), hS.2.2⟩ hL (vcons trivial (vtail hV))
  have hcA : cA = yC Y t := by
    rcases ht with ⟨rfl, rfl⟩ | ⟨rfl, rfl⟩ | ⟨rfl, rfl⟩
    · exact Option.some.inj (c5.symm.trans (K.2.2.2.2.1.1.2 0 _ rfl).2)
    · exact Option.some.inj (c5.symm.trans (K.2.2.2.2.1.1.2 1 _ rfl).2)
    · exact Option.some.inj (c5.symm.trans (K.2.2.2.2.1.1.2 2 _ rfl).2)
  have h9 : 9 ≤ t := by rcases ht with ⟨-, rfl⟩ | ⟨-, rfl⟩ | ⟨-, rfl⟩ <;> decide
  have h13 : t < 13 := by rcases ht with ⟨-, rfl⟩ | ⟨-, rfl⟩ | ⟨-, rfl⟩ <;> decide
  have hup : va_up T (3 + hn) t (3 + hn) = t := by simp [va_up]
  rw [cE_arr hup h9 h13]
  show H'[ad Y (3 + hn)]? = some (vp_cell _ _)
  rw [c1, vp_cell_i, hcA]
  congr 2
  · simp [va_up]
  · funext j
    rcases ht with ⟨rfl, -⟩ | ⟨rfl, -⟩ | ⟨rfl, -⟩ <;> simp [va_up] <;> rfl
end STOR
end
section
section CALL
variable {X : Cx} {Y : SY} {Q : State → Prop} {cells slots pc : Nat} {ls : List (Option PV)} {st : List PV} {T L : Nat → Nat} {P : Nat → Nat → Option Nat} {I : Nat → Nat → Int} {hn : Nat} {cc : ByteArray} {own : String} {nL : Nat} {ret : Option FieldType} {R : Room} {nm : String}
theorem fV_new {ci k : Nat} (h : ci < 9) : ∀ j, j < cN ci → defaultValue (yn ci j) = vp_V ((List.range (cN ci)).map (fV Y (va_up P k (fun _ => none)) (va_up I k (fun _ => 0)) ci k)) j := by
  have key : ∀ ci, ci < 9 → ∀ j, j < cN ci → defaultValue (yn ci j) = if fR ci j then .null else .int 0 := fun ci h =>
    ci_9 (P := fun ci => ∀ j, j < cN ci → defaultValue (yn ci j) = if fR ci j then .null else .int 0) (by decide +kernel) (by decide +kernel) (by decide +kernel) (by decide +kernel) (by decide +kernel) (by decide +kernel) (by decide +kernel) (by decide +kernel) (by decide +kernel) h
  intro j hj
  rw [key ci h j hj, vp_V, List.getD_eq_getElem?_getD, fV_at hj]
  simp only [Option.getD_some, fV, va_up, if_true, Option.map_none, va_rf]
  rfl
/-- a new object of class ci -/
theorem r_new (K : OK X Y cc own nL ret R nm) {ci idx : Nat} (hd : decode cc pc = .ok (.new idx, 3)) (hci : ci < 9) (hw : Cond.classLink own idx (Rn ci) ∈ lw_tbl ∧ Cond.instantiable (Rn ci) (cN ci) ∈ lw_tbl ∧ Cond.initialized (Rn ci) ∈ lw_tbl) (hc : cells + 1 ≤ R.cells) (hs : slots + cN ci ≤ R.slots)
    (kk : RR X Y Q (cells + 1) (slots + cN ci) (pc + 3) ls (.inr (some (3 + hn)) :: st) (va_up T (3 + hn) ci) (va_up L (3 + hn) 0) (va_up P (3 + hn) (fun _ => none)) (va_up I (3 + hn) (fun _ => 0)) (hn + 1)) : RR X Y Q cells slots pc ls st T L P I hn := by
  intro H locs la hH hS hL hV
  have hR : xR X = R := K.2.2.2.2.2.2.2.1
  have hKn := K.2.2.2.2.1.1.1 ci _ (cl_at hci)
  refine W.newcK K.1 K.2.1 K.2.2.2.1 (K.w hw.1 rfl) (K.w hw.2.1 rfl) (K.w hw.2.2 rfl) rfl hd (by rw [hR]; exact hc) (by rw [hR]; exact hs) hKn.2.1 (ad_new hH) fun H' kC hkC c1 c2 c3 => ?_
  have z2 : H'.size = H.size + 1 := by rw [c2, ad_new hH]
  have o2 : ∀ q, q < H.size → H'[q]? = H[q]? := fun q hq => c3 q (by rw [← ad_new hH]; exact hq)
  refine kk H' locs la (hH.new (by omega) z2 o2 ?_) ⟨by rw [z2]; exact Nat.le_succ_of_le hS.1, fun q g1 g2 => (o2 q (Nat.lt_of_lt_of_le g1 hS.1)).trans (hS.2.1 q g1 g2), hS.2.2⟩ hL (vcons trivial hV)
  have hup : va_up T (3 + hn) ci (3 + hn) = ci := by simp [va_up]
  rw [cE_obj hup hci]
  exact ⟨_, cl_at hci, (u_born (yn ci) (K.2.2.2.2.1.ts #[]) (cl_in hci) hKn hkC c1 (cl_ty hci)).to (fV_new hci)⟩
/-- a new array of references: 13 of Bytes, 14 of Patch -/
theorem r_newq (K : OK X Y cc own nL ret R nm) {t ci idx : Nat} {n : Int} (hd : decode cc pc = .ok (.anewarray idx, 3)) (ht : (t = 13 ∧ ci = 0) ∨ (t = 14 ∧ ci = 3)) (hw : Cond.classLink own idx (Rn ci) ∈ lw_tbl ∧ Cond.arrayOver (.object (Rn ci)) ∈ lw_tbl) (h0 : 0 ≤ n) (h1 : n ≤ 100000) (hc : cells + 1 ≤ R.cells) (hs : slots + n.toNat ≤ R.slots)
    (kk : RR X Y Q (cells + 1) (slots + n.toNat) (pc + 3) ls (.inr (some (3 + hn)) :: st) (va_up T (3 + hn) t) (va_up L (3 + hn) n.toNat) (va_up P (3 + hn) (fun _ => none)) (va_up I (3 + hn) (fun _ => 0)) (hn + 1)) : RR X Y Q cells slots pc ls (.inl n :: st) T L P I hn := by
  intro H locs la hH hS hL hV
  have hi := vh hV
  have hR : xR X = R := K.2.2.2.2.2.2.2.1
  have hn0 : ¬ Int32.ofInt n < 0 := by rw [← oi_0, oi_lt hi rg0]; omega
  refine W.anew K.1 K.2.1 K.2.2.2.1 (K.w hw.1 rfl) (K.w hw.2 rfl) rfl hd rfl hn0 (by rw [oi_cl hi]; omega) (by rw [hR]; exact hc) (by rw [hR, oi_cl hi]; exact hs) fun cA kA comp f1 f2 f3 f4 => ?_
  rw [oi_cl hi, ad_new hH]
  generalize hH1 : H.push ({ cls := cA, slots := Array.replicate n.toNat .null, vm := .none } : Cell) = H'
  have z2 : H'.size = H.size + 1 := by rw [← hH1, Array.size_push]
  have e1 : H'[H.size]? = some (arrV cA n.toNat (fun _ => .null)) := by rw [← hH1, Array.getElem?_push_size, ← arrV_new]
  have o2 : ∀ q : Nat, q < H.size → H'[q]? = H[q]? := fun q hq => by rw [← hH1, Array.getElem?_push, if_neg (Nat.ne_of_lt hq)]
  refine kk H' locs la (hH.new (by rcases ht with ⟨rfl, -⟩ | ⟨rfl, -⟩ <;> decide) z2 o2 ?_) ⟨by rw [z2]; exact Nat.le_succ_of_le hS.1, fun q g1 g2 => (o2 q (Nat.lt_of_lt_of_le g1 hS.1)).trans (hS.2.1 q g1 g2), hS.2.2⟩ hL (vcons trivial (vtail hV))
  have h13 : 13 ≤ t := by rcases ht with ⟨rfl, -⟩ | ⟨rfl, -⟩ <;> decide
  have hcA : cA = yC Y t := by
    rcases ht with ⟨rfl, rfl⟩ | ⟨rfl, rfl⟩
    · obtain ⟨_, _, -, -, -, g4⟩ := (K.2.2.2.2.1.1.2 3 _ rfl).2
      exact Option.some.inj (f1.symm.trans g4)
    · obtain ⟨_, _, -, -, -, g4⟩ := (K.2.2.2.2.1.1.2 4 _ rfl).2
      exact Option.some.inj (f1.symm.trans g4)
  have hup : va_up T (3 + hn) t (3 + hn) = t := by simp [va_up]
  rw [cE_rar hup h13]
  show H'[ad Y (3 + hn)]? = some (vp_cell _ _)
  rw [← ad_new hH, e1, vp_cell_q, hcA]
  congr 2
  · simp [va_up]
  · funext j
    simp [va_up, va_rf]
theorem r_ifnonnull (K : OK X Y cc own nL ret R nm) {o : Option Nat} {off : Int} (tgt : Nat) (hd : decode cc pc = .ok (.ifnonnull off, 3)) (ht : (pc : Int) + off = (tgt : Int)) (kt : ∀ q, o = some q → RR X Y Q cells slots tgt ls st T L P I hn) (kf : o = none → RR X Y Q cells slots (pc + 3) ls st T L P I hn) : RR X Y Q cells slots pc ls (.inr o :: st) T L P I hn := by
  intro H locs la hH hS hL hV
  cases o with
  | none => exact lv_ifnonnullN K.1 K.2.1 hd (kf rfl H locs la hH hS hL (vtail hV))
  | some q => exact lv_ifnonnull K.1 K.2.1 hd ht (kt q rfl H locs la hH hS hL (vtail hV))
theorem r_tableOut (K : OK X Y cc own nL ret R nm) {dflt lo hi : Int} {offs : Array Int} {len : Nat} {x : Int} (tgt : Nat) (hd : decode cc pc = .ok (.tableswitch dflt lo hi offs, len)) (h : x < lo ∨ hi < x) (ht : (pc : Int) + dflt = (tgt : Int)) (k : RR X Y Q cells slots tgt ls st T L P I hn) : RR X Y Q cells slots pc ls (.inl x :: st) T L P I hn :=
  fun H locs la hH hS hL hV => lv_tableOut K.1 K.2.1 hd (by rw [oi_toInt (vh hV)]; exact h) ht (k H locs la hH hS hL (vtail hV))
theorem r_tableIn (K : OK X Y cc own nL ret R nm) {dflt lo hi : Int} {offs : Array Int} {len : Nat} {x off : Int} (tgt : Nat) (hd : decode cc pc = .ok (.tableswitch dflt lo hi offs, len)) (h1 : lo ≤ x) (h2 : x ≤ hi) (ho : offs[(x - lo).toNat]? = some off) (ht : (pc : Int) + off = (tgt : Int)) (k : RR X Y Q cells slots tgt ls st T L P I hn) : RR X Y Q cells slots pc ls (.inl x :: st) T L P I hn :=
  fun H locs la hH hS hL hV => lv_tableIn K.1 K.2.1 hd (by rw [oi_toInt (vh hV)]; omega) (by rw [oi_toInt (vh hV)]; omega) (by rw [oi_toInt (vh hV)]; exact ho) ht (k H locs la hH hS hL (vtail hV))
theorem r_lookup (K : OK X Y cc own nL ret R nm) {dflt : Int} {ps : Array (Int × Int)} {len : Nat} {x off : Int} (tgt : Nat) (hd : decode cc pc = .ok (.lookupswitch dflt ps, len)) (hp : (ps.toList.zip (ps.toList.drop 1)).all (fun (a, next) => a.1 < next.1) = true) (ho : Op.lookupswitch.offset ps.toList dflt x = off) (ht : (pc : Int) + off = (tgt : Int)) (k : RR X Y Q cells slots tgt ls st T L P I hn) : RR X Y Q cells slots pc ls (.inl x :: st) T L P I hn :=
  fun H locs la hH hS hL hV => lv_lookup K.1 K.2.1 hd hp (by rw [oi_toInt (vh hV)]; exact ho) ht (k H locs la hH hS hL (vtail hV))
/-- getstatic of the two tables: 1 is PAIR_FROM, 2 is PAIR_TO -/
theorem r_gets (K : OK X Y cc own nL ret R nm) {idx k : Nat} (hd : decode cc pc = .ok (.getstatic idx, 3)) (hk : (k = 1 ∧ (Cond.fieldLink own idx "PatchBench" "PAIR_FROM" "[I" ∈ lw_tbl ∨ Cond.fieldLinkNest own idx "PatchBench" "PAIR_FROM" "[I" "PatchBench" ∈ lw_tbl)) ∨ (k = 2 ∧ (Cond.fieldLink own idx "PatchBench" "PAIR_TO" "[I" ∈ lw_tbl ∨ Cond.fieldLinkNest own idx "PatchBench" "PAIR_TO" "[I" "PatchBench" ∈ lw_tbl))) (kk : RR X Y Q cells slots (pc + 3) ls (.inr (some k) :: st) T L P I hn) : RR X Y Q cells slots pc ls st T L P I hn := by
  intro H locs la hH hS hL hV
  have go := kk H locs la hH hS hL (vcons trivial hV)
  have e1 : ySp Y 1 = ad Y 1 := (if_pos (by decide)).symm
  have e2 : ySp Y 2 = ad Y 2 := (if_pos (by decide)).symm
  have z1 := K.2.2.2.2.1.2.2.2.2.2.2.1
  have z2 := K.2.2.2.2.1.2.2.2.2.2.2.2
  rw [e1] at z1
  rw [e2] at z2
  rcases hk with ⟨rfl, hl | hl⟩ | ⟨rfl, hl | hl⟩
  · exact va_gets K.1 K.2.1 z1 hS K.2.2.2.1 (K.w hl rfl) (fun _ h => h) hd go
  · exact va_getsN K.1 K.2.1 z1 hS K.2.2.2.1 (K.w hl rfl) (fun _ h => h) hd go
  · exact va_gets K.1 K.2.1 z2 hS K.2.2.2.1 (K.w hl rfl) (fun _ h => h) hd go
  · exact va_getsN K.1 K.2.1 z2 hS K.2.2.2.1 (K.w hl rfl) (fun _ h => h) hd go
theorem st_sum (Y : SY) (st : List PV) : ((st.map (eV Y)).map fun v => v.category).sum = st.length := by
  induction st with
  | nil => rfl
  | cons v st ih =>
    rw [List.map_cons, List.map_cons, List.sum_cons, eV_cat, ih, List.length_cons, Nat.add_comm]
theorem r_min (K : OK X Y cc own nL ret R nm) {x y : Int} {idx : Nat} (hd : decode cc pc = .ok (.invokestatic idx, 3)) (hw : Cond.methodLink own idx Lib.Math.min.name ∈ lw_tbl) (hf : 1 ≤ R.frames) (hlo : st.length + 13 ≤ R.locals) (hc : cells ≤ R.cells) (hs : slots ≤ R.slots) (kk : RR X Y Q cells slots (pc + 3) ls (.inl (if y < x then y else x) :: st) T L P I hn) : RR X Y Q cells slots pc ls (.inl y :: .inl x :: st) T L P I hn := by
  intro H locs la hH hS hL hV
  have hR : xR X = R := K.2.2.2.2.2.2.2.1
  have hy := vh hV
  have hx := vh (vtail hV)
  refine va_mmin K.1 K.2.1 (hL.1.1.symm) K.2.2.2.1 (K.w hw rfl) (K.w (by decide +kernel) rfl) (K.w (by decide +kernel) rfl) (K.w (by decide +kernel) rfl) (by rw [hR]; exact hf) (by rw [hR, st_sum]; exact hlo) (by rw [hR]; exact hc) (by rw [hR]; exact hs) hd ?_
  have e : (if Int32.ofInt y < Int32.ofInt x then Int32.ofInt y else Int32.ofInt x) = Int32.ofInt (if y < x then y else x) := by
    by_cases h : y < x
    · rw [if_pos h, if_pos ((oi_lt hy hx).mpr h)]
    · rw [if_neg h, if_neg (fun q => h ((oi_lt hy hx).mp q))]
  rw [e]
  exact kk H locs la hH hS hL (vcons (show rg _ by split <;> assumption) (vtail (vtail hV)))
theorem r_max (K : OK X Y cc own nL ret R nm) {x y : Int} {idx : Nat} (hd : decode cc pc = .ok (.invokestatic idx, 3)) (hw : Cond.methodLink own idx Lib.Math.max.name ∈ lw_tbl) (hf : 1 ≤ R.frames) (hlo : st.length + 13 ≤ R.locals) (hc : cells ≤ R.cells) (hs : slots ≤ R.slots) (kk : RR X Y Q cells slots (pc + 3) ls (.inl (if x < y then y else x) :: st) T L P I hn) : RR X Y Q cells slots pc ls (.inl y :: .inl x :: st) T L P I hn := by
  intro H locs la hH hS hL hV
  have hR : xR X = R := K.2.2.2.2.2.2.2.1
  have hy := vh hV
  have hx := vh (vtail hV)
  refine va_mmax K.1 K.2.1 (hL.1.1.symm) K.2.2.2.1 (K.w hw rfl) (K.w (by decide +kernel) rfl) (K.w (by decide +kernel) rfl) (K.w (by decide +kernel) rfl) (by rw [hR]; exact hf) (by rw [hR, st_sum]; exact hlo) (by rw [hR]; exact hc) (by rw [hR]; exact hs) hd ?_
  have e : (if Int32.ofInt x < Int32.ofInt y then Int32.ofInt y else Int32.ofInt x) = Int32.ofInt (if x < y then y else x) := by
    by_cases h : x < y
    · rw [if_pos h, if_pos ((oi_lt hx hy).mpr h)]
    · rw [if_neg h, if_neg (fun q => h ((oi_lt hx hy).mp q))]
  rw [e]
  exact kk H locs la hH hS hL (vcons (show rg _ by split <;> assumption) (vtail (vtail hV)))
end CALL
end
section
abbrev Po : Type := Option PV → (Nat → Nat) → (Nat → Nat) → (Nat → Nat → Option Nat) → (Nat → Nat → Int) → Nat → Prop
def PO (Y : SY) (post : Po) : Array Value → State → Outcome → State → Prop := fun _ s o t =>
  (∃ (r : Option PV) (T L : Nat → Nat) (P : Nat → Nat → Option Nat) (I : Nat → Nat → Int) (hn : Nat), o = .returned (r.map (eV Y)) ∧ (∀ v, r = some v → vg v) ∧ post r T L P I hn ∧ HR Y T L P I hn t.heap) ∧ va_F (yA Y) s t
def PR (Y : SY) (pa : List PV) (T L : Nat → Nat) (P : Nat → Nat → Option Nat) (I : Nat → Nat → Int) (hn : Nat) : Array Value → State → Prop := fun a U =>
  a = (pa.map (eV Y)).toArray ∧ (∀ v ∈ pa, vg v) ∧ KK Y U ∧ HR Y T L P I hn U.heap
abbrev rm_ (fr lo mc ms : Nat) : Room := { frames := fr, cells := mc, slots := ms, locals := lo }
/-- a method's contract: called with these arguments in this memory it returns, and post holds of its answer and the memory then; at most mc cells of ms slots are new -/
def CT (y : MethodName) (cc : ByteArray) (nL : Nat) (ret : Option FieldType) (fr lo mc ms : Nat) (pa : List PV) (T L : Nat → Nat) (P : Nat → Nat → Option Nat) (I : Nat → Nat → Int) (hn : Nat) (post : Po) : Prop :=
  ∀ (l : Launch) (Y : SY), Met l y [.code y cc nL ret] (rm_ fr lo mc ms) (PR Y pa T L P I hn) (PO Y post) mc ms (yA Y)
theorem lv_args1 (Y : SY) : ∀ (pa : List PV) (i j : Nat) (v : PV), pa[j]? = some v → (i + j, eV Y v) ∈ lv_args i (pa.map (eV Y))
  | [], _, _, _, h => by simp at h
  | w :: pa, i, 0, v, h => by
    rw [List.getElem?_cons_zero] at h
    cases h
    simp only [List.map_cons, lv_args, Nat.add_zero]
    exact List.mem_cons_self
  | w :: pa, i, j + 1, v, h => by
    rw [List.getElem?_cons_succ] at h
    simp only [List.map_cons, lv_args, eV_cat]
    refine List.mem_cons_of_mem _ ?_
    have := lv_args1 Y pa (i + 1) j v h
    rw [show i + (j + 1) = i + 1 + j by omega]
    exact this
theorem lg_len (Y : SY) : ∀ pa : List PV, (lg_sl (pa.map (eV Y))).length = pa.length
  | [] => rfl
  | v :: pa => by
    have := lg_len Y pa
    simp only [lg_sl, List.map_cons, List.flatMap_cons, eV_cat, List.length_append, List.length_cons] at this ⊢
    simp only [this]
    simp
    omega
def ls0 (pa : List PV) (nL : Nat) : List (Option PV) := pa.map some ++ List.replicate (nL - pa.length) none
theorem LH.entry {Y : SY} {pa : List PV} {nL : Nat} (h : pa.length ≤ nL) (hv : ∀ v ∈ pa, vg v) : LH Y ((lg_sl (pa.map (eV Y)) ++ List.replicate (nL - (lg_sl (pa.map (eV Y))).length) Slot.unset).toArray) nL (ls0 pa nL) := by
  have hl := lv_entry (pa.map (eV Y)) (n := nL) (by rw [lg_len]; exact h)
  have key : ∀ (i : Nat) (v : PV), (ls0 pa nL)[i]? = some (some v) → pa[i]? = some v := by
    intro i v hi
    unfold ls0 at hi
    rcases Nat.lt_or_ge i pa.length with q | q
    · rw [List.getElem?_append_left (by simpa using q), List.getElem?_map] at hi
      cases hp : pa[i]? with
      | none => rw [hp] at hi; cases hi
      | some w => rw [hp] at hi; cases hi; rfl
    · rw [List.getElem?_append_right (by simpa using q)] at hi
      have := List.eq_of_mem_replicate (List.mem_of_getElem? hi)
      cases this
  refine ⟨⟨hl.1, hl.2.1, fun q hq => ?_⟩, fun i v hi => hv v (List.mem_of_getElem? (key i v hi))⟩
  obtain ⟨i, x⟩ := q
  obtain ⟨v, h1, rfl⟩ := pl_mem.mp hq
  have := lv_args1 Y pa 0 i v (key i v h1)
  rw [Nat.zero_add] at this
  exact hl.2.2 _ this
section CTOF
variable {y : MethodName} {cc : ByteArray} {nL : Nat} {ret : Option FieldType} {fr lo mc ms : Nat} {pa : List PV} {T L : Nat → Nat} {P : Nat → Nat → Option Nat} {I : Nat → Nat → Int} {hn : Nat} {post : Po}
/-- the end that a contract wants -/
def QM (X : Cx) (Y : SY) (post : Po) (mc ms : Nat) : State → Prop := MQ (xb X) (PO Y post) (xa X) (xs X) mc ms (yA Y)
theorem CT.of (hy : plainName y.cls = true) (hpa : pa.length ≤ nL) (body : ∀ (X : Cx) (Y : SY), OK X Y cc y.cls nL ret (rm_ fr lo mc ms) y.name → (∀ v ∈ pa, vg v) → RR X Y (QM X Y post mc ms) 0 0 0 (ls0 pa nL) [] T L P I hn) : CT y cc nL ret fr lo mc ms pa T L P I hn post := by
  intro l Y
  refine Met.ofW (cc := cc) (maxL := nL) (ret := ret) hy rfl ?_
  intro p e s m args below meth c s₁ B hml hv
  obtain ⟨rfl, hvg, hK, hH⟩ := hv
  have h := body (p, l, e, rm_ fr lo mc ms, s, m, ((pa.map (eV Y)).toArray), below, meth, c) Y ⟨B.exec, B.bytes, hml, findClass_of_methodNamed B.named, hK, B.returns, B.notSynchronized, rfl, (name_of_methodNamed B.named B.method).1⟩ hvg
  rw [lg_entry_eq]
  refine h s.heap [] _ hH va_S.rf ?_ (fun v hv => by cases hv)
  show LH Y _ c.maxLocals _
  rw [hml]
  exact LH.entry hpa hvg
end CTOF
section RETS
variable {X : Cx} {Y : SY} {cells slots pc : Nat} {ls : List (Option PV)} {T L : Nat → Nat} {P : Nat → Nat → Option Nat} {I : Nat → Nat → Int} {hn : Nat} {cc : ByteArray} {own : String} {nL : Nat} {R : Room} {nm : String} {post : Po} {mc ms : Nat}
theorem r_iret {ret : Option FieldType} (K : OK X Y cc own nL ret R nm) (hr : ret = some .int) {z : Int} (hd : decode cc pc = .ok (.ireturn, 1)) (hc : cells ≤ mc) (hs : slots ≤ ms) (hp : post (some (.inl z)) T L P I hn) : RR X Y (QM X Y post mc ms) cells slots pc ls [.inl z] T L P I hn := by
  subst hr
  intro H locs la hH hS hL hV
  refine W.widen hc hs ?_
  exact W.iret (v := Int32.ofInt z) K.1 K.2.1 K.2.2.2.2.2.1 (fun t ht hW => ⟨⟨some (.inl z), T, L, P, I, hn, rfl, fun v hv => by cases hv; exact vh hV, hp, by rw [ht]; exact hH⟩, hS.F ht⟩) hS.2.2 hd K.2.2.2.2.2.2.1
theorem r_zret {ret : Option FieldType} (K : OK X Y cc own nL ret R nm) (hr : ret = some .boolean) {z : Int} (hd : decode cc pc = .ok (.ireturn, 1)) (h01 : z = 0 ∨ z = 1) (hc : cells ≤ mc) (hs : slots ≤ ms) (hp : post (some (.inl z)) T L P I hn) : RR X Y (QM X Y post mc ms) cells slots pc ls [.inl z] T L P I hn := by
  subst hr
  intro H locs la hH hS hL hV
  refine W.widen hc hs ?_
  have hn' : narrow .boolean (.int (Int32.ofInt z)) = .int (Int32.ofInt z) := by rcases h01 with rfl | rfl <;> rfl
  exact W.zret (v := Int32.ofInt z) K.1 K.2.1 K.2.2.2.2.2.1 hn' (fun t ht hW => ⟨⟨some (.inl z), T, L, P, I, hn, rfl, fun v hv => by cases hv; exact vh hV, hp, by rw [ht]; exact hH⟩, hS.F ht⟩) hS.2.2 hd K.2.2.2.2.2.2.1
theorem r_vret {ret : Option FieldType} (K : OK X Y cc own nL ret R nm) (hr : ret = none) (hd : decode cc pc = .ok (.return_, 1)) (hc : cells ≤ mc) (hs : slots ≤ ms) (hp : post none T L P I hn) : RR X Y (QM X Y post mc ms) cells slots pc ls [] T L P I hn := by
  subst hr
  intro H locs la hH hS hL hV
  refine W.widen hc hs ?_
  exact W.vret K.1 K.2.1 K.2.2.2.2.2.1 (fun t ht hW => ⟨⟨none, T, L, P, I, hn, rfl, fun v hv => (by cases hv), hp, by rw [ht]; exact hH⟩, hS.F ht⟩) hS.2.2 hd K.2.2.2.2.2.2.1
theorem r_aret {ret : Option FieldType} (K : OK X Y cc own nL ret R nm) {C : String} (hr : ret = some (.object C)) {q : Nat} (hd : decode cc pc = .ok (.areturn, 1)) (hc : cells ≤ mc) (hs : slots ≤ ms) (hp : post (some (.inr (some q))) T L P I hn) : RR X Y (QM X Y post mc ms) cells slots pc ls [.inr (some q)] T L P I hn := by
  subst hr
  intro H locs la hH hS hL hV
  refine W.widen hc hs ?_
  exact W.aret (v := .ref (ad Y q)) K.1 K.2.1 K.2.2.2.2.2.1 (Or.inl ⟨_, rfl⟩) (Or.inr ⟨_, rfl⟩) (fun t ht hW => ⟨⟨some (.inr (some q)), T, L, P, I, hn, rfl, fun v hv => by cases hv; trivial, hp, by rw [ht]; exact hH⟩, hS.F ht⟩) hS.2.2 hd K.2.2.2.2.2.2.1
end RETS
section CALLS
variable {X : Cx} {Y : SY} {Q : State → Prop} {cells slots pc : Nat} {ls : List (Option PV)} {st : List PV} {T L : Nat → Nat} {P : Nat → Nat → Option Nat} {I : Nat → Nat → Int} {hn : Nat} {cc : ByteArray} {own : String} {nL : Nat} {ret : Option FieldType} {R : Room} {nm : String}
variable {y : MethodName} {cy : ByteArray} {ny : Nat} {ry : Option FieldType} {fr lo mc ms : Nat} {pa : List PV} {post : Po} {idx : Nat}
theorem run_go {H : Heap} {locs : List Loc} {la : Array Slot} {st0 : List Value} {a : Array Value} (hL : LH Y la (xc X).maxLocals ls) (hV : ∀ v ∈ st, vg v) (hr : va_Run (xp X) (xl X) (xe X) (xR X) (xs X) (xm X) (xa X) (xb X) (xh X) (xc X) H locs cells slots mc ms (F0 (xm X) pc la st0) (st.map (eV Y)) (PO Y post a) (yA Y)) (hS : va_S (yA Y) (xs X).heap H locs)
    (kk : ∀ (r : Option PV) (T L : Nat → Nat) (P : Nat → Nat → Option Nat) (I : Nat → Nat → Int) (hn : Nat), post r T L P I hn → RR X Y Q (cells + mc) (slots + ms) (pc + 3) ls (r.toList ++ st) T L P I hn) : W (xp X) (xl X) (xe X) (xR X) (xs X) (xm X) (xa X) (xb X) (xh X) (xc X) H locs cells slots Q (F0 (xm X) pc la st0) := by
  intro U hU Z
  obtain ⟨v, st₀, t, U', Lc, h0, Z', hLc, e1, e2, ⟨⟨r, T1, L1, P1, I1, n1, hv, hvg, hp, hH⟩, hz, hk⟩, go⟩ := hr U hU Z
  have hv : v = r.map (eV Y) := by cases hv; rfl
  subst hv
  rw [h0] at hz hk
  obtain ⟨t2, a1, b1⟩ := kk r T1 L1 P1 I1 n1 hp U'.heap (locs ++ Lc) la (by rw [e1]; exact hH) ⟨Nat.le_trans hS.1 (by rw [e1]; exact hz), fun q h1 h2 => by rw [e1, hk q (Nat.lt_of_lt_of_le h1 hS.1) h2]; exact hS.2.1 q h1 h2, fun q hq => by
      rcases List.mem_append.mp hq with h | h
      · exact hS.2.2 q h
      · exact hLc q h⟩ hL (fun w hw => by
      rcases List.mem_append.mp hw with h | h
      · cases r with
        | none => cases h
        | some x => rw [List.mem_singleton.mp h]; exact hvg x rfl
      · exact hV w h) U' rfl Z'
  refine ⟨t2, go t2 ?_, b1⟩
  cases r with
  | none => exact a1
  | some x => exact a1
theorem PR_blind : FrameBlind (PR Y pa T L P I hn) := by
  intro a U g mk h
  obtain ⟨h1, h2, h3, h4⟩ := h
  exact ⟨h1, h2, h3.warm (U := U.calling g mk a) (State.WarmedH.refl U) h3.2.2.1 (fun _ _ _ => rfl), h4⟩
theorem PR_at {H : Heap} {locs : List Loc} (K : OK X Y cc own nL ret R nm) (hH : HR Y T L P I hn H) (hS : va_S (yA Y) (xs X).heap H locs) (hpa : ∀ v ∈ pa, vg v) : ∀ U : State, U.heap = H → (xs X).WarmedH U.vm → PR Y pa T L P I hn (pa.map (eV Y)).toArray U := by
  intro U hU hW
  refine ⟨rfl, hpa, K.2.2.2.2.1.warm hW ?_ ?_, by rw [hU]; exact hH⟩
  · rw [hU, hH.1]; omega
  · intro q h1 h2
    rw [hU]
    exact hS.2.1 q h1 h2
/-- what a call needs of the tables: by its own link, or a nest mate's -/
def cL (own : String) (idx : Nat) (y : MethodName) (cy : ByteArray) (ny : Nat) (ry : Option FieldType) (n : Nat) : Prop :=
  (Cond.methodLink own idx y ∈ lw_tbl ∨ Cond.methodLinkNest own idx y "PatchBench" ∈ lw_tbl) ∧ Cond.code y cy ny ry ∈ lw_tbl ∧ Cond.initialized y.cls ∈ lw_tbl ∧ y.cls ≠ "java/lang/invoke/MethodHandle" ∧ y.cls ≠ "java/lang/invoke/VarHandle" ∧ (parseMethodDescriptor y.desc).map (fun d => d.parameters.length) = some n
theorem cL_B (K : OK X Y cc own nL ret R nm) {n : Nat} (h : cL own idx y cy ny ry n) (hl : Cond.methodLink own idx y ∈ lw_tbl) (hf : fr + 1 ≤ R.frames) (hlo : 19 + ny + lo ≤ R.locals) : CallB (xR X) (xs X) (xa X) own idx y cy ny ry [.code y cy ny ry] (rm_ fr lo mc ms) mc ms n := by
  obtain ⟨-, h2, h3, h4, h5, h6⟩ := h
  have hR : xR X = R := K.2.2.2.2.2.2.2.1
  refine ⟨rfl, rfl, by rw [hR]; exact hf, by rw [hR]; show 8 + (ny + 11) + lo ≤ _; omega, fun w hw a' U hW => ?_, List.mem_cons_self, K.w h2 rfl, K.w h3 rfl, ⟨h4, h5⟩, fun sig hsig => ?_, K.w hl rfl⟩
  · rw [List.mem_singleton.mp hw]
    exact mov_warm rfl hW (K.w h2 rfl (a := #[]))
  · rw [hsig] at h6
    exact (Option.some.inj h6).symm
theorem cL_N (K : OK X Y cc own nL ret R nm) {n : Nat} (h : cL own idx y cy ny ry n) (hl : Cond.methodLinkNest own idx y "PatchBench" ∈ lw_tbl) (hf : fr + 1 ≤ R.frames) (hlo : 19 + ny + lo ≤ R.locals) : va_CN (xR X) (xs X) (xa X) own idx y "PatchBench" cy ny ry [.code y cy ny ry] (rm_ fr lo mc ms) mc ms n := by
  obtain ⟨-, h2, h3, h4, h5, h6⟩ := h
  have hR : xR X = R := K.2.2.2.2.2.2.2.1
  refine ⟨⟨rfl, rfl, by rw [hR]; exact hf, by rw [hR]; show 8 + (ny + 11) + lo ≤ _; omega, fun w hw a' U hW => ?_, List.mem_cons_self⟩, K.w h2 rfl, K.w h3 rfl, ⟨h4, h5⟩, fun sig hsig => ?_, K.w hl rfl⟩
  · rw [List.mem_singleton.mp hw]
    exact mov_warm rfl hW (K.w h2 rfl (a := #[]))
  · rw [hsig] at h6
    exact (Option.some.inj h6).symm
theorem map_rev (Y : SY) (pa st : List PV) : (pa.reverse ++ st).map (eV Y) = (pa.map (eV Y)).reverse ++ st.map (eV Y) := by simp
theorem room_st (Y : SY) {la : Array Slot} {m : MethodId} {s0 : List Value} (st : List PV) (h : st.length ≤ 8) : 2 * (F0 m pc la s0).monitorRoom + ((st.map (eV Y)).map fun v => v.category).sum ≤ 8 := lv_room (by rw [st_sum]; exact h)
/-- a call of an instance's method -/
theorem r_callV (K : OK X Y cc own nL ret R nm) {b ci n : Nat} (pa : List PV) (hd : decode cc pc = .ok (.invokevirtual idx, 3)) (hw : cL own idx y cy ny ry n) (hw2 : Cond.instanceMethod y ∈ lw_tbl ∧ Cond.selects y.cls y y ∈ lw_tbl ∧ ci < 9 ∧ Rn ci = y.cls) (hn' : pa.length = n) (hT : T b = ci) (hM : CT y cy ny ry fr lo mc ms (.inr (some b) :: pa) T L P I hn post) (hf : fr + 1 ≤ R.frames) (hlo : 19 + ny + lo ≤ R.locals) (hc : cells + mc ≤ R.cells) (hs : slots + ms ≤ R.slots) (hst : st.length ≤ 8) {st0 : List PV} (hst0 : st0 = pa.reverse ++ .inr (some b) :: st)
    (kk : ∀ (r : Option PV) (T L : Nat → Nat) (P : Nat → Nat → Option Nat) (I : Nat → Nat → Int) (hn : Nat), post r T L P I hn → RR X Y Q (cells + mc) (slots + ms) (pc + 3) ls (r.toList ++ st) T L P I hn) : RR X Y Q cells slots pc ls st0 T L P I hn := by
  subst hst0
  intro H locs la hH hS hL hV
  have hR : xR X = R := K.2.2.2.2.2.2.2.1
  have hpa : ∀ v ∈ (.inr (some b) :: pa : List PV), vg v := fun v hv => by
    rcases List.mem_cons.mp hv with h | h
    · rw [h]; trivial
    · exact hV v (List.mem_append_left _ (List.mem_reverse.mpr h))
  have hVst : ∀ v ∈ st, vg v := fun v hv => hV v (List.mem_append_right _ (List.mem_cons_of_mem _ hv))
  have hpre := PR_at K hH hS hpa
  obtain ⟨hin, hsel, hci, hC⟩ := hw2
  obtain ⟨r', hr', cell, g1, g2, g3, -⟩ := hH.obj hT hci
  have hrecv : ∃ cellB : Cell, H[ad Y b]? = some cellB ∧ cellB.vm.isStatics = false ∧ (xs X).vm.findClass y.cls = some cellB.cls := ⟨cell, g1, by rw [g3]; rfl, by rw [g2, ← hC]; exact (K.2.2.2.2.1.1.1 ci _ (cl_at hci)).2.1⟩
  rw [map_rev]
  have hcs : cells + mc ≤ (xR X).cells ∧ slots + ms ≤ (xR X).slots := by rw [hR]; exact ⟨hc, hs⟩
  rcases hw.1 with hl | hl
  · exact run_go hL hVst (va_runV (As := pa.map (eV Y)) (rest := st.map (eV Y)) (Ts := tbl) (b := ad Y b) ⟨K.1, K.2.1, K.2.2.1, K.2.2.2.1, K.2.2.2.2.1.ts _⟩ (hM (xl X) Y) ⟨cL_B K hw hl hf hlo, K.w hin rfl, K.w hsel rfl⟩ ⟨PR_blind, hrecv, hpre⟩ rfl (by simpa using hn') (by rw [← K.2.2.1]; exact hL.1.1) rfl (room_st Y st hst) hd hcs) hS kk
  · exact run_go hL hVst (va_runVN (As := pa.map (eV Y)) (rest := st.map (eV Y)) (Ts := tbl) (b := ad Y b) ⟨K.1, K.2.1, K.2.2.1, K.2.2.2.1, K.2.2.2.2.1.ts _⟩ (hM (xl X) Y) ⟨cL_N K hw hl hf hlo, K.w hin rfl, K.w hsel rfl⟩ ⟨PR_blind, hrecv, hpre⟩ rfl (by simpa using hn') (by rw [← K.2.2.1]; exact hL.1.1) rfl (room_st Y st hst) hd hcs) hS kk
/-- a call of a class's method -/
theorem r_callS (K : OK X Y cc own nL ret R nm) {n : Nat} (pa : List PV) (hd : decode cc pc = .ok (.invokestatic idx, 3)) (hw : cL own idx y cy ny ry n) (hw2 : Cond.static y ∈ lw_tbl) (hn' : pa.length = n) (hM : CT y cy ny ry fr lo mc ms pa T L P I hn post) (hf : fr + 1 ≤ R.frames) (hlo : 19 + ny + lo ≤ R.locals) (hc : cells + mc ≤ R.cells) (hs : slots + ms ≤ R.slots) (hst : st.length ≤ 8) {st0 : List PV} (hst0 : st0 = pa.reverse ++ st)
    (kk : ∀ (r : Option PV) (T L : Nat → Nat) (P : Nat → Nat → Option Nat) (I : Nat → Nat → Int) (hn : Nat), post r T L P I hn → RR X Y Q (cells + mc) (slots + ms) (pc + 3) ls (r.toList ++ st) T L P I hn) : RR X Y Q cells slots pc ls st0 T L P I hn := by
  subst hst0
  intro H locs la hH hS hL hV
  have hR : xR X = R := K.2.2.2.2.2.2.2.1
  have hpa : ∀ v ∈ pa, vg v := fun v hv => hV v (List.mem_append_left _ (List.mem_reverse.mpr hv))
  have hVst : ∀ v ∈ st, vg v := fun v hv => hV v (List.mem_append_right _ hv)
  have hpre := PR_at K hH hS hpa
  rw [map_rev]
  have hcs : cells + mc ≤ (xR X).cells ∧ slots + ms ≤ (xR X).slots := by rw [hR]; exact ⟨hc, hs⟩
  rcases hw.1 with hl | hl
  · exact run_go hL hVst (va_runS (As := pa.map (eV Y)) (rest := st.map (eV Y)) (Ts := tbl) ⟨K.1, K.2.1, K.2.2.1, K.2.2.2.1, K.2.2.2.2.1.ts _⟩ (hM (xl X) Y) ⟨cL_B K hw hl hf hlo, K.w hw2 rfl⟩ ⟨PR_blind, hpre⟩ rfl (by simpa using hn') (by rw [← K.2.2.1]; exact hL.1.1) rfl (room_st Y st hst) hd hcs) hS kk
  · exact run_go hL hVst (va_runSN (As := pa.map (eV Y)) (rest := st.map (eV Y)) (Ts := tbl) ⟨K.1, K.2.1, K.2.2.1, K.2.2.2.1, K.2.2.2.2.1.ts _⟩ (hM (xl X) Y) ⟨cL_N K hw hl hf hlo, K.w hw2 rfl, trivial⟩ ⟨PR_blind, hpre⟩ rfl (by simpa using hn') (by rw [← K.2.2.1]; exact hL.1.1) rfl (room_st Y st hst) hd hcs) hS kk
/-- a call of a constructor -/
theorem r_callI (K : OK X Y cc own nL ret R nm) {b n : Nat} (pa : List PV) (hd : decode cc pc = .ok (.invokespecial idx, 3)) (hw : cL own idx y cy ny none n) (hw2 : Cond.instanceMethod y ∈ lw_tbl ∧ y.name = "<init>") (hn' : pa.length = n) (hM : CT y cy ny none fr lo mc ms (.inr (some b) :: pa) T L P I hn post) (hf : fr + 1 ≤ R.frames) (hlo : 19 + ny + lo ≤ R.locals) (hc : cells + mc ≤ R.cells) (hs : slots + ms ≤ R.slots) (hst : st.length ≤ 8) {st0 : List PV} (hst0 : st0 = pa.reverse ++ .inr (some b) :: st)
    (kk : ∀ (r : Option PV) (T L : Nat → Nat) (P : Nat → Nat → Option Nat) (I : Nat → Nat → Int) (hn : Nat), post r T L P I hn → RR X Y Q (cells + mc) (slots + ms) (pc + 3) ls (r.toList ++ st) T L P I hn) : RR X Y Q cells slots pc ls st0 T L P I hn := by
  subst hst0
  intro H locs la hH hS hL hV
  have hR : xR X = R := K.2.2.2.2.2.2.2.1
  have hpa : ∀ v ∈ (.inr (some b) :: pa : List PV), vg v := fun v hv => by
    rcases List.mem_cons.mp hv with h | h
    · rw [h]; trivial
    · exact hV v (List.mem_append_left _ (List.mem_reverse.mpr h))
  have hVst : ∀ v ∈ st, vg v := fun v hv => hV v (List.mem_append_right _ (List.mem_cons_of_mem _ hv))
  have hpre := PR_at K hH hS hpa
  rw [map_rev]
  have hcs : cells + mc ≤ (xR X).cells ∧ slots + ms ≤ (xR X).slots := by rw [hR]; exact ⟨hc, hs⟩
  rcases hw.1 with hl | hl
  · exact run_go hL hVst (va_runI (As := pa.map (eV Y)) (rest := st.map (eV Y)) (Ts := tbl) (b := ad Y b) ⟨K.1, K.2.1, K.2.2.1, K.2.2.2.1, K.2.2.2.2.1.ts _⟩ (hM (xl X) Y) ⟨cL_B K hw hl hf hlo, hw2.2, K.w hw2.1 rfl⟩ ⟨PR_blind, hpre⟩ rfl (by simpa using hn') (by rw [← K.2.2.1]; exact hL.1.1) rfl (room_st Y st hst) hd hcs) hS kk
  · exact run_go hL hVst (va_runIN (As := pa.map (eV Y)) (rest := st.map (eV Y)) (Ts := tbl) (b := ad Y b) ⟨K.1, K.2.1, K.2.2.1, K.2.2.2.1, K.2.2.2.2.1.ts _⟩ (hM (xl X) Y) ⟨cL_N K hw hl hf hlo, hw2.2, K.w hw2.1 rfl⟩ ⟨PR_blind, hpre⟩ rfl (by simpa using hn') (by rw [← K.2.2.1]; exact hL.1.1) rfl (room_st Y st hst) hd hcs) hS kk
/-- Object's constructor -/
theorem r_obj (K : OK X Y cc own nL ret R nm) {b : Nat} (hd : decode cc pc = .ok (.invokespecial idx, 3)) (hw : Cond.methodLink own idx objectInit ∈ lw_tbl) (hf : 1 ≤ R.frames) (hlo : st.length + 12 ≤ R.locals) (kk : RR X Y Q cells slots (pc + 3) ls st T L P I hn) : RR X Y Q cells slots pc ls (.inr (some b) :: st) T L P I hn := by
  intro H locs la hH hS hL hV
  have hR : xR X = R := K.2.2.2.2.2.2.2.1
  refine W.objInit K.1 K.2.1 K.2.2.2.1 (K.w hw rfl) (K.w (by decide +kernel) rfl) (K.w (by decide +kernel) rfl) rfl (by exact hL.1.1) rfl hd (by rw [hR]; exact hf) ?_ (kk H locs la hH hS hL (vtail hV))
  rw [hR]
  show 2 * 0 + _ + 12 ≤ _
  rw [st_sum]; omega
end CALLS
end
section
section CPY
variable {X : Cx} {Y : SY} {Q : State → Prop} {cells slots pc : Nat} {ls : List (Option PV)} {st : List PV} {T L : Nat → Nat} {P : Nat → Nat → Option Nat} {I : Nat → Nat → Int} {hn : Nat} {cc : ByteArray} {own : String} {nL : Nat} {ret : Option FieldType} {R : Room} {nm : String}
/-- a row of the memory is replaced -/
def mR (I : Nat → Nat → Int) (a : Nat) (f : Nat → Int) : Nat → Nat → Int := fun b => if b = a then f else I b
theorem mR_eq {I : Nat → Nat → Int} {a : Nat} {f : Nat → Int} : mR I a f a = f := by simp [mR]
theorem mR_ne {I : Nat → Nat → Int} {a b : Nat} {f : Nat → Int} (h : b ≠ a) : mR I a f b = I b := by simp [mR, h]
/-- System.arraycopy between two different arrays of ints, from their beginnings -/
theorem r_copy (K : OK X Y cc own nL ret R nm) {a b idx : Nat} {n : Int} (hd : decode cc pc = .ok (.invokestatic idx, 3)) (hw : Cond.methodLink own idx arraycopyName ∈ lw_tbl) (hTa : T a = 10) (hTb : T b = 10) (h0 : 0 ≤ n) (h1 : n ≤ L a) (h2 : n ≤ L b) (hf : 1 ≤ R.frames) (hlo : st.length + 18 ≤ R.locals)
    (kk : RR X Y Q cells slots (pc + 3) ls st T L P (mR I b (fun j => if j < n.toNat then I a j else I b j)) hn) : RR X Y Q cells slots pc ls (.inl n :: .inl 0 :: .inr (some b) :: .inl 0 :: .inr (some a) :: st) T L P I hn := by
  intro H locs la hH hS hL hV
  have hR : xR X = R := K.2.2.2.2.2.2.2.1
  have hn1 := vh hV
  have h3 : 3 ≤ b := hH.ge (by omega)
  have hVst := vtail (vtail (vtail (vtail (vtail hV))))
  have hc0 := hH.arr hTa (by decide) (by decide)
  have hc1 := hH.arr hTb (by decide) (by decide)
  obtain ⟨-, k0, hk0, cm0, hkk0⟩ := (K.2.2.2.2.1.1.2 0 _ rfl).1 (L a) (fun j => .int (Int32.ofInt (I a j)))
  intro U hU Z
  obtain ⟨vm', Z', step⟩ := Z.arraycopy K.1 K.2.2.2.1 (K.w hw rfl) (K.w (by decide +kernel) rfl) (K.w (by decide +kernel) rfl) (K.w (by decide +kernel) rfl) (src := ad Y a) (dst := ad Y b) (cs := vp_cell (yC Y 10) (L a, .inl (fun j => Int32.ofInt (I a j)))) (cd := vp_cell (yC Y 10) (L b, .inl (fun j => Int32.ofInt (I b j)))) (srcPos := Int32.ofInt 0) (destPos := Int32.ofInt 0) (n := Int32.ofInt n) (by rw [hU]; exact hc0) (by rw [hU]; exact hc1)
    (fun _ h => by cases h) (fun _ h => by cases h) (fun h => by cases h) (fun h => by cases h) hk0 hk0 hkk0 hkk0 rfl (by decide) (by decide) (by rw [← oi_0, oi_lt hn1 rg0]; omega)
    (by rw [oi_toInt rg0, oi_toInt hn1]; show ¬ _ > ((arrV _ (L a) _).slots.size : Int); rw [arrV_size]; omega)
    (by rw [oi_toInt rg0, oi_toInt hn1]; show ¬ _ > ((arrV _ (L b) _).slots.size : Int); rw [arrV_size]; omega)
    (fun vm₁ _ i hi => by
      rw [oi_cl hn1] at hi
      have e : (vp_cell (yC Y 10) (L a, .inl (fun j => Int32.ofInt (I a j)))).slots.getD ((Int32.ofInt 0).toNatClampNeg + i) .null = .int (Int32.ofInt (I a i)) := by
        rw [oi_cl rg0]
        show (arrV _ (L a) (fun j => .int (Int32.ofInt (I a j)))).slots.getD _ _ = _
        rw [Array.getD_eq_getD_getElem?, arrV_read _ _ (by simp; omega)]
        simp
      rw [e]
      exact ⟨rfl, trivial⟩)
    (g := F0 (xm X) pc la (((.inl n :: .inl 0 :: .inr (some b) :: .inl 0 :: .inr (some a) :: st) : List PV).map (eV Y))) rfl hL.1.1 (rest := st.map (eV Y)) rfl (by rw [K.2.1]; exact hd) (by rw [hR]; exact hf) (by show 2 * 0 + _ + (7 + 11) ≤ _; rw [hR, st_sum]; omega)
  have e1 : copied (vp_cell (yC Y 10) (L a, .inl (fun j => Int32.ofInt (I a j)))) (vp_cell (yC Y 10) (L b, .inl (fun j => Int32.ofInt (I b j)))) (Int32.ofInt 0) (Int32.ofInt 0) (Int32.ofInt n) = vp_cell (yC Y 10) (L b, .inl (fun j => Int32.ofInt (mR I b (fun j => if j < n.toNat then I a j else I b j) b j))) := by
    refine (va_copied (fun z => .int z) (yC Y 10) (yC Y 10) (fun j => Int32.ofInt (I a j)) (fun j => Int32.ofInt (I b j)) (by rw [oi_cl rg0, oi_cl hn1]; simp; omega)).trans ?_
    rw [vp_cell_i]
    congr 2
    funext j
    rw [oi_cl rg0, oi_cl hn1, mR_eq]
    simp only [va_cpy]
    by_cases h : j < n.toNat
    · rw [if_pos h, if_pos (by simp; omega)]; simp
    · rw [if_neg h, if_neg (by simp; omega)]
  rw [e1] at Z' step
  have hl : ad Y b < H.size := (Array.getElem?_eq_some_iff.mp hc1).1
  generalize hcell : vp_cell (yC Y 10) (L b, .inl (fun j => Int32.ofInt (mR I b (fun j => if j < n.toNat then I a j else I b j) b j))) = cell at Z' step e1
  have hheap : ((U.setVm vm').setCell (ad Y b) cell).heap = H.setIfInBounds (ad Y b) cell := by rw [← hU]; rfl
  have oq : ∀ q : Nat, q ≠ ad Y b → (H.setIfInBounds (ad Y b) cell)[q]? = H[q]? := fun q hq => by simp [Array.getElem?_setIfInBounds, Ne.symm hq]
  have hsz : (H.setIfInBounds (ad Y b) cell).size = H.size := by simp
  obtain ⟨t, a1, b1⟩ := kk _ _ la (hH.upd h3 hsz oq (fun j hj => mR_ne hj) (fun _ _ => rfl) (fun i => by
      rw [mR_eq]
      show rg (if i < n.toNat then I a i else I b i)
      split
      · exact hH.2.2.2.2.1 _ _
      · exact hH.2.2.2.2.1 _ _) (by
      rw [cE_arr hTb (by decide) (by decide)]
      show (H.setIfInBounds (ad Y b) cell)[ad Y b]? = some (vp_cell _ _)
      rw [hcell]
      simp [Array.getElem?_setIfInBounds, hl])) ⟨by rw [hsz]; exact hS.1, fun q g1 g2 => by
      rw [oq q (fun e => g2 (by rw [e]; exact yA_hi h3))]
      exact hS.2.1 q g1 g2, fun q hq => by
      rcases List.mem_append.mp hq with h | h
      · exact hS.2.2 q h
      · obtain ⟨z, -, hz⟩ := List.mem_map.mp h
        rw [← hz]
        exact yA_hi h3⟩ hL hVst _ hheap Z'
  exact ⟨t, step t a1, b1⟩
end CPY
end
section
theorem dX0_init_0 : decode cX0_init 0 = .ok (.aload_n 0, 1) := by decide +kernel
theorem dX0_init_1 : decode cX0_init 1 = .ok (.invokespecial 3, 3) := by decide +kernel
theorem dX0_init_4 : decode cX0_init 4 = .ok (.aload_n 0, 1) := by decide +kernel
theorem dX0_init_5 : decode cX0_init 5 = .ok (.iload_n 1, 1) := by decide +kernel
theorem dX0_init_6 : decode cX0_init 6 = .ok (.iconst 0, 1) := by decide +kernel
theorem dX0_init_7 : decode cX0_init 7 = .ok (.invokestatic 9, 3) := by decide +kernel
theorem dX0_init_10 : decode cX0_init 10 = .ok (.newarray .int, 2) := by decide +kernel
theorem dX0_init_12 : decode cX0_init 12 = .ok (.putfield 15, 3) := by decide +kernel
theorem dX0_init_15 : decode cX0_init 15 = .ok (.return_, 1) := by decide +kernel
theorem dX0_at_0 : decode cX0_at 0 = .ok (.iload_n 1, 1) := by decide +kernel
theorem dX0_at_1 : decode cX0_at 1 = .ok (.ifCond .lt 29, 3) := by decide +kernel
theorem dX0_at_4 : decode cX0_at 4 = .ok (.iload_n 1, 1) := by decide +kernel
theorem dX0_at_5 : decode cX0_at 5 = .ok (.aload_n 0, 1) := by decide +kernel
theorem dX0_at_6 : decode cX0_at 6 = .ok (.getfield 21, 3) := by decide +kernel
theorem dX0_at_9 : decode cX0_at 9 = .ok (.if_icmp .ge 21, 3) := by decide +kernel
theorem dX0_at_12 : decode cX0_at 12 = .ok (.iload_n 1, 1) := by decide +kernel
theorem dX0_at_13 : decode cX0_at 13 = .ok (.aload_n 0, 1) := by decide +kernel
theorem dX0_at_14 : decode cX0_at 14 = .ok (.getfield 15, 3) := by decide +kernel
theorem dX0_at_17 : decode cX0_at 17 = .ok (.arraylength, 1) := by decide +kernel
theorem dX0_at_18 : decode cX0_at 18 = .ok (.if_icmp .ge 12, 3) := by decide +kernel
theorem dX0_at_21 : decode cX0_at 21 = .ok (.aload_n 0, 1) := by decide +kernel
theorem dX0_at_22 : decode cX0_at 22 = .ok (.getfield 15, 3) := by decide +kernel
theorem dX0_at_25 : decode cX0_at 25 = .ok (.iload_n 1, 1) := by decide +kernel
theorem dX0_at_26 : decode cX0_at 26 = .ok (.iaload, 1) := by decide +kernel
theorem dX0_at_27 : decode cX0_at 27 = .ok (.goto 4, 3) := by decide +kernel
theorem dX0_at_30 : decode cX0_at 30 = .ok (.iconst (-1), 1) := by decide +kernel
theorem dX0_at_31 : decode cX0_at 31 = .ok (.ireturn, 1) := by decide +kernel
theorem dX0_appendFour_0 : decode cX0_appendFour 0 = .ok (.bipush 24, 2) := by decide +kernel
theorem dX0_appendFour_2 : decode cX0_appendFour 2 = .ok (.istore_n 2, 1) := by decide +kernel
theorem dX0_appendFour_3 : decode cX0_appendFour 3 = .ok (.iload_n 2, 1) := by decide +kernel
theorem dX0_appendFour_4 : decode cX0_appendFour 4 = .ok (.ifCond .lt 47, 3) := by decide +kernel
theorem dX0_appendFour_7 : decode cX0_appendFour 7 = .ok (.aload_n 0, 1) := by decide +kernel
theorem dX0_appendFour_8 : decode cX0_appendFour 8 = .ok (.getfield 21, 3) := by decide +kernel
theorem dX0_appendFour_11 : decode cX0_appendFour 11 = .ok (.aload_n 0, 1) := by decide +kernel
theorem dX0_appendFour_12 : decode cX0_appendFour 12 = .ok (.getfield 15, 3) := by decide +kernel
theorem dX0_appendFour_15 : decode cX0_appendFour 15 = .ok (.arraylength, 1) := by decide +kernel
theorem dX0_appendFour_16 : decode cX0_appendFour 16 = .ok (.if_icmp .ge 29, 3) := by decide +kernel
theorem dX0_appendFour_19 : decode cX0_appendFour 19 = .ok (.aload_n 0, 1) := by decide +kernel
theorem dX0_appendFour_20 : decode cX0_appendFour 20 = .ok (.getfield 15, 3) := by decide +kernel
theorem dX0_appendFour_23 : decode cX0_appendFour 23 = .ok (.aload_n 0, 1) := by decide +kernel
theorem dX0_appendFour_24 : decode cX0_appendFour 24 = .ok (.getfield 21, 3) := by decide +kernel
theorem dX0_appendFour_27 : decode cX0_appendFour 27 = .ok (.iload_n 1, 1) := by decide +kernel
theorem dX0_appendFour_28 : decode cX0_appendFour 28 = .ok (.iload_n 2, 1) := by decide +kernel
theorem dX0_appendFour_29 : decode cX0_appendFour 29 = .ok (.iushr, 1) := by decide +kernel
theorem dX0_appendFour_30 : decode cX0_appendFour 30 = .ok (.sipush 255, 3) := by decide +kernel
theorem dX0_appendFour_33 : decode cX0_appendFour 33 = .ok (.iand, 1) := by decide +kernel
theorem dX0_appendFour_34 : decode cX0_appendFour 34 = .ok (.iastore, 1) := by decide +kernel
theorem dX0_appendFour_35 : decode cX0_appendFour 35 = .ok (.aload_n 0, 1) := by decide +kernel
theorem dX0_appendFour_36 : decode cX0_appendFour 36 = .ok (.dup, 1) := by decide +kernel
theorem dX0_appendFour_37 : decode cX0_appendFour 37 = .ok (.getfield 21, 3) := by decide +kernel
theorem dX0_appendFour_40 : decode cX0_appendFour 40 = .ok (.iconst 1, 1) := by decide +kernel
theorem dX0_appendFour_41 : decode cX0_appendFour 41 = .ok (.iadd, 1) := by decide +kernel
theorem dX0_appendFour_42 : decode cX0_appendFour 42 = .ok (.putfield 21, 3) := by decide +kernel
theorem dX0_appendFour_45 : decode cX0_appendFour 45 = .ok (.iinc 2 (-8), 3) := by decide +kernel
theorem dX0_appendFour_48 : decode cX0_appendFour 48 = .ok (.goto (-45), 3) := by decide +kernel
theorem dX0_appendFour_51 : decode cX0_appendFour 51 = .ok (.return_, 1) := by decide +kernel
theorem dX0_takeFirst_0 : decode cX0_takeFirst 0 = .ok (.iconst 0, 1) := by decide +kernel
theorem dX0_takeFirst_1 : decode cX0_takeFirst 1 = .ok (.iload_n 2, 1) := by decide +kernel
theorem dX0_takeFirst_2 : decode cX0_takeFirst 2 = .ok (.aload_n 0, 1) := by decide +kernel
theorem dX0_takeFirst_3 : decode cX0_takeFirst 3 = .ok (.getfield 15, 3) := by decide +kernel
theorem dX0_takeFirst_6 : decode cX0_takeFirst 6 = .ok (.arraylength, 1) := by decide +kernel
theorem dX0_takeFirst_7 : decode cX0_takeFirst 7 = .ok (.aload_n 1, 1) := by decide +kernel
theorem dX0_takeFirst_8 : decode cX0_takeFirst 8 = .ok (.getfield 21, 3) := by decide +kernel
theorem dX0_takeFirst_11 : decode cX0_takeFirst 11 = .ok (.invokestatic 25, 3) := by decide +kernel
theorem dX0_takeFirst_14 : decode cX0_takeFirst 14 = .ok (.invokestatic 25, 3) := by decide +kernel
theorem dX0_takeFirst_17 : decode cX0_takeFirst 17 = .ok (.invokestatic 9, 3) := by decide +kernel
theorem dX0_takeFirst_20 : decode cX0_takeFirst 20 = .ok (.istore_n 3, 1) := by decide +kernel
theorem dX0_takeFirst_21 : decode cX0_takeFirst 21 = .ok (.aload_n 1, 1) := by decide +kernel
theorem dX0_takeFirst_22 : decode cX0_takeFirst 22 = .ok (.getfield 15, 3) := by decide +kernel
theorem dX0_takeFirst_25 : decode cX0_takeFirst 25 = .ok (.iconst 0, 1) := by decide +kernel
theorem dX0_takeFirst_26 : decode cX0_takeFirst 26 = .ok (.aload_n 0, 1) := by decide +kernel
theorem dX0_takeFirst_27 : decode cX0_takeFirst 27 = .ok (.getfield 15, 3) := by decide +kernel
theorem dX0_takeFirst_30 : decode cX0_takeFirst 30 = .ok (.iconst 0, 1) := by decide +kernel
theorem dX0_takeFirst_31 : decode cX0_takeFirst 31 = .ok (.iload_n 3, 1) := by decide +kernel
theorem dX0_takeFirst_32 : decode cX0_takeFirst 32 = .ok (.invokestatic 28, 3) := by decide +kernel
theorem dX0_takeFirst_35 : decode cX0_takeFirst 35 = .ok (.iload_n 3, 1) := by decide +kernel
theorem dX0_takeFirst_36 : decode cX0_takeFirst 36 = .ok (.istore 4, 2) := by decide +kernel
theorem dX0_takeFirst_38 : decode cX0_takeFirst 38 = .ok (.iload 4, 2) := by decide +kernel
theorem dX0_takeFirst_40 : decode cX0_takeFirst 40 = .ok (.aload_n 0, 1) := by decide +kernel
theorem dX0_takeFirst_41 : decode cX0_takeFirst 41 = .ok (.getfield 15, 3) := by decide +kernel
theorem dX0_takeFirst_44 : decode cX0_takeFirst 44 = .ok (.arraylength, 1) := by decide +kernel
theorem dX0_takeFirst_45 : decode cX0_takeFirst 45 = .ok (.if_icmp .ge 17, 3) := by decide +kernel
theorem dX0_takeFirst_48 : decode cX0_takeFirst 48 = .ok (.aload_n 0, 1) := by decide +kernel
theorem dX0_takeFirst_49 : decode cX0_takeFirst 49 = .ok (.getfield 15, 3) := by decide +kernel
theorem dX0_takeFirst_52 : decode cX0_takeFirst 52 = .ok (.iload 4, 2) := by decide +kernel
theorem dX0_takeFirst_54 : decode cX0_takeFirst 54 = .ok (.iconst 0, 1) := by decide +kernel
theorem dX0_takeFirst_55 : decode cX0_takeFirst 55 = .ok (.iastore, 1) := by decide +kernel
theorem dX0_takeFirst_56 : decode cX0_takeFirst 56 = .ok (.iinc 4 1, 3) := by decide +kernel
theorem dX0_takeFirst_59 : decode cX0_takeFirst 59 = .ok (.goto (-21), 3) := by decide +kernel
theorem dX0_takeFirst_62 : decode cX0_takeFirst 62 = .ok (.aload_n 0, 1) := by decide +kernel
theorem dX0_takeFirst_63 : decode cX0_takeFirst 63 = .ok (.iload_n 3, 1) := by decide +kernel
theorem dX0_takeFirst_64 : decode cX0_takeFirst 64 = .ok (.putfield 21, 3) := by decide +kernel
theorem dX0_takeFirst_67 : decode cX0_takeFirst 67 = .ok (.return_, 1) := by decide +kernel
theorem dX0_checksum_0 : decode cX0_checksum 0 = .ok (.iconst 1, 1) := by decide +kernel
theorem dX0_checksum_1 : decode cX0_checksum 1 = .ok (.istore_n 1, 1) := by decide +kernel
theorem dX0_checksum_2 : decode cX0_checksum 2 = .ok (.iconst 0, 1) := by decide +kernel
theorem dX0_checksum_3 : decode cX0_checksum 3 = .ok (.istore_n 2, 1) := by decide +kernel
theorem dX0_checksum_4 : decode cX0_checksum 4 = .ok (.iload_n 2, 1) := by decide +kernel
theorem dX0_checksum_5 : decode cX0_checksum 5 = .ok (.aload_n 0, 1) := by decide +kernel
theorem dX0_checksum_6 : decode cX0_checksum 6 = .ok (.getfield 21, 3) := by decide +kernel
theorem dX0_checksum_9 : decode cX0_checksum 9 = .ok (.if_icmp .ge 26, 3) := by decide +kernel
theorem dX0_checksum_12 : decode cX0_checksum 12 = .ok (.iload_n 1, 1) := by decide +kernel
theorem dX0_checksum_13 : decode cX0_checksum 13 = .ok (.bipush 31, 2) := by decide +kernel
theorem dX0_checksum_15 : decode cX0_checksum 15 = .ok (.imul, 1) := by decide +kernel
theorem dX0_checksum_16 : decode cX0_checksum 16 = .ok (.aload_n 0, 1) := by decide +kernel
theorem dX0_checksum_17 : decode cX0_checksum 17 = .ok (.getfield 15, 3) := by decide +kernel
theorem dX0_checksum_20 : decode cX0_checksum 20 = .ok (.iload_n 2, 1) := by decide +kernel
theorem dX0_checksum_21 : decode cX0_checksum 21 = .ok (.iaload, 1) := by decide +kernel
theorem dX0_checksum_22 : decode cX0_checksum 22 = .ok (.iadd, 1) := by decide +kernel
theorem dX0_checksum_23 : decode cX0_checksum 23 = .ok (.iconst 1, 1) := by decide +kernel
theorem dX0_checksum_24 : decode cX0_checksum 24 = .ok (.iadd, 1) := by decide +kernel
theorem dX0_checksum_25 : decode cX0_checksum 25 = .ok (.ldc 34, 2) := by decide +kernel
theorem dX0_checksum_27 : decode cX0_checksum 27 = .ok (.irem, 1) := by decide +kernel
theorem dX0_checksum_28 : decode cX0_checksum 28 = .ok (.istore_n 1, 1) := by decide +kernel
theorem dX0_checksum_29 : decode cX0_checksum 29 = .ok (.iinc 2 1, 3) := by decide +kernel
theorem dX0_checksum_32 : decode cX0_checksum 32 = .ok (.goto (-28), 3) := by decide +kernel
theorem dX0_checksum_35 : decode cX0_checksum 35 = .ok (.iload_n 1, 1) := by decide +kernel
theorem dX0_checksum_36 : decode cX0_checksum 36 = .ok (.ireturn, 1) := by decide +kernel
theorem dX1_init_0 : decode cX1_init 0 = .ok (.aload_n 0, 1) := by decide +kernel
theorem dX1_init_1 : decode cX1_init 1 = .ok (.invokespecial 3, 3) := by decide +kernel
theorem dX1_init_4 : decode cX1_init 4 = .ok (.aload_n 0, 1) := by decide +kernel
theorem dX1_init_5 : decode cX1_init 5 = .ok (.new 9, 3) := by decide +kernel
theorem dX1_init_8 : decode cX1_init 8 = .ok (.dup, 1) := by decide +kernel
theorem dX1_init_9 : decode cX1_init 9 = .ok (.bipush 120, 2) := by decide +kernel
theorem dX1_init_11 : decode cX1_init 11 = .ok (.invokespecial 11, 3) := by decide +kernel
theorem dX1_init_14 : decode cX1_init 14 = .ok (.putfield 14, 3) := by decide +kernel
theorem dX1_init_17 : decode cX1_init 17 = .ok (.aload_n 0, 1) := by decide +kernel
theorem dX1_init_18 : decode cX1_init 18 = .ok (.new 20, 3) := by decide +kernel
theorem dX1_init_21 : decode cX1_init 21 = .ok (.dup, 1) := by decide +kernel
theorem dX1_init_22 : decode cX1_init 22 = .ok (.invokespecial 22, 3) := by decide +kernel
theorem dX1_init_25 : decode cX1_init 25 = .ok (.putfield 23, 3) := by decide +kernel
theorem dX1_init_28 : decode cX1_init 28 = .ok (.aload_n 0, 1) := by decide +kernel
theorem dX1_init_29 : decode cX1_init 29 = .ok (.bipush 120, 2) := by decide +kernel
theorem dX1_init_31 : decode cX1_init 31 = .ok (.newarray .int, 2) := by decide +kernel
theorem dX1_init_33 : decode cX1_init 33 = .ok (.putfield 27, 3) := by decide +kernel
theorem dX1_init_36 : decode cX1_init 36 = .ok (.aload_n 0, 1) := by decide +kernel
theorem dX1_init_37 : decode cX1_init 37 = .ok (.bipush 120, 2) := by decide +kernel
theorem dX1_init_39 : decode cX1_init 39 = .ok (.newarray .int, 2) := by decide +kernel
theorem dX1_init_41 : decode cX1_init 41 = .ok (.putfield 31, 3) := by decide +kernel
theorem dX1_init_44 : decode cX1_init 44 = .ok (.return_, 1) := by decide +kernel
theorem dX1_load_0 : decode cX1_load 0 = .ok (.aload_n 0, 1) := by decide +kernel
theorem dX1_load_1 : decode cX1_load 1 = .ok (.getfield 14, 3) := by decide +kernel
theorem dX1_load_4 : decode cX1_load 4 = .ok (.aload_n 1, 1) := by decide +kernel
theorem dX1_load_5 : decode cX1_load 5 = .ok (.aload_n 1, 1) := by decide +kernel
theorem dX1_load_6 : decode cX1_load 6 = .ok (.getfield 34, 3) := by decide +kernel
theorem dX1_load_9 : decode cX1_load 9 = .ok (.invokevirtual 38, 3) := by decide +kernel
theorem dX1_load_12 : decode cX1_load 12 = .ok (.aload_n 0, 1) := by decide +kernel
theorem dX1_load_13 : decode cX1_load 13 = .ok (.invokevirtual 42, 3) := by decide +kernel
theorem dX1_load_16 : decode cX1_load 16 = .ok (.return_, 1) := by decide +kernel
theorem dX1_fits_0 : decode cX1_fits 0 = .ok (.aload_n 0, 1) := by decide +kernel
theorem dX1_fits_1 : decode cX1_fits 1 = .ok (.getfield 14, 3) := by decide +kernel
theorem dX1_fits_4 : decode cX1_fits 4 = .ok (.getfield 34, 3) := by decide +kernel
theorem dX1_fits_7 : decode cX1_fits 7 = .ok (.aload_n 1, 1) := by decide +kernel
theorem dX1_fits_8 : decode cX1_fits 8 = .ok (.getfield 34, 3) := by decide +kernel
theorem dX1_fits_11 : decode cX1_fits 11 = .ok (.if_icmp .ne 21, 3) := by decide +kernel
theorem dX1_fits_14 : decode cX1_fits 14 = .ok (.aload_n 0, 1) := by decide +kernel
theorem dX1_fits_15 : decode cX1_fits 15 = .ok (.getfield 14, 3) := by decide +kernel
theorem dX1_fits_18 : decode cX1_fits 18 = .ok (.invokevirtual 45, 3) := by decide +kernel
theorem dX1_fits_21 : decode cX1_fits 21 = .ok (.aload_n 1, 1) := by decide +kernel
theorem dX1_fits_22 : decode cX1_fits 22 = .ok (.invokevirtual 45, 3) := by decide +kernel
theorem dX1_fits_25 : decode cX1_fits 25 = .ok (.if_icmp .ne 7, 3) := by decide +kernel
theorem dX1_fits_28 : decode cX1_fits 28 = .ok (.iconst 1, 1) := by decide +kernel
theorem dX1_fits_29 : decode cX1_fits 29 = .ok (.goto 4, 3) := by decide +kernel
theorem dX1_fits_32 : decode cX1_fits 32 = .ok (.iconst 0, 1) := by decide +kernel
theorem dX1_fits_33 : decode cX1_fits 33 = .ok (.ireturn, 1) := by decide +kernel
theorem dX1_begin_0 : decode cX1_begin 0 = .ok (.aload_n 0, 1) := by decide +kernel
theorem dX1_begin_1 : decode cX1_begin 1 = .ok (.getfield 23, 3) := by decide +kernel
theorem dX1_begin_4 : decode cX1_begin 4 = .ok (.aload_n 1, 1) := by decide +kernel
theorem dX1_begin_5 : decode cX1_begin 5 = .ok (.invokevirtual 49, 3) := by decide +kernel
theorem dX1_begin_8 : decode cX1_begin 8 = .ok (.aload_n 0, 1) := by decide +kernel
theorem dX1_begin_9 : decode cX1_begin 9 = .ok (.aload_n 0, 1) := by decide +kernel
theorem dX1_begin_10 : decode cX1_begin 10 = .ok (.getfield 23, 3) := by decide +kernel
theorem dX1_begin_13 : decode cX1_begin 13 = .ok (.iconst 1, 1) := by decide +kernel
theorem dX1_begin_14 : decode cX1_begin 14 = .ok (.invokevirtual 53, 3) := by decide +kernel
theorem dX1_begin_17 : decode cX1_begin 17 = .ok (.aload_n 0, 1) := by decide +kernel
theorem dX1_begin_18 : decode cX1_begin 18 = .ok (.getfield 23, 3) := by decide +kernel
theorem dX1_begin_21 : decode cX1_begin 21 = .ok (.iconst 0, 1) := by decide +kernel
theorem dX1_begin_22 : decode cX1_begin 22 = .ok (.invokevirtual 53, 3) := by decide +kernel
theorem dX1_begin_25 : decode cX1_begin 25 = .ok (.if_icmp .ge 7, 3) := by decide +kernel
theorem dX1_begin_28 : decode cX1_begin 28 = .ok (.iconst 1, 1) := by decide +kernel
theorem dX1_begin_29 : decode cX1_begin 29 = .ok (.goto 4, 3) := by decide +kernel
theorem dX1_begin_32 : decode cX1_begin 32 = .ok (.iconst 0, 1) := by decide +kernel
theorem dX1_begin_33 : decode cX1_begin 33 = .ok (.putfield 57, 3) := by decide +kernel
theorem dX1_begin_36 : decode cX1_begin 36 = .ok (.aload_n 0, 1) := by decide +kernel
theorem dX1_begin_37 : decode cX1_begin 37 = .ok (.getfield 23, 3) := by decide +kernel
theorem dX1_begin_40 : decode cX1_begin 40 = .ok (.aload_n 0, 1) := by decide +kernel
theorem dX1_begin_41 : decode cX1_begin 41 = .ok (.getfield 57, 3) := by decide +kernel
theorem dX1_begin_44 : decode cX1_begin 44 = .ok (.invokevirtual 53, 3) := by decide +kernel
theorem dX1_begin_47 : decode cX1_begin 47 = .ok (.pop, 1) := by decide +kernel
theorem dX1_begin_48 : decode cX1_begin 48 = .ok (.aload_n 0, 1) := by decide +kernel
theorem dX1_begin_49 : decode cX1_begin 49 = .ok (.iconst 0, 1) := by decide +kernel
theorem dX1_begin_50 : decode cX1_begin 50 = .ok (.putfield 60, 3) := by decide +kernel
theorem dX1_begin_53 : decode cX1_begin 53 = .ok (.iconst 0, 1) := by decide +kernel
theorem dX1_begin_54 : decode cX1_begin 54 = .ok (.istore_n 2, 1) := by decide +kernel
theorem dX1_begin_55 : decode cX1_begin 55 = .ok (.iload_n 2, 1) := by decide +kernel
theorem dX1_begin_56 : decode cX1_begin 56 = .ok (.bipush 120, 2) := by decide +kernel
theorem dX1_begin_58 : decode cX1_begin 58 = .ok (.if_icmp .ge 40, 3) := by decide +kernel
theorem dX1_begin_61 : decode cX1_begin 61 = .ok (.aload_n 0, 1) := by decide +kernel
theorem dX1_begin_62 : decode cX1_begin 62 = .ok (.getfield 23, 3) := by decide +kernel
theorem dX1_begin_65 : decode cX1_begin 65 = .ok (.iload_n 2, 1) := by decide +kernel
theorem dX1_begin_66 : decode cX1_begin 66 = .ok (.invokevirtual 63, 3) := by decide +kernel
theorem dX1_begin_69 : decode cX1_begin 69 = .ok (.ifCond .eq 23, 3) := by decide +kernel
theorem dX1_begin_72 : decode cX1_begin 72 = .ok (.aload_n 0, 1) := by decide +kernel
theorem dX1_begin_73 : decode cX1_begin 73 = .ok (.getfield 27, 3) := by decide +kernel
theorem dX1_begin_76 : decode cX1_begin 76 = .ok (.aload_n 0, 1) := by decide +kernel
theorem dX1_begin_77 : decode cX1_begin 77 = .ok (.getfield 60, 3) := by decide +kernel
theorem dX1_begin_80 : decode cX1_begin 80 = .ok (.iload_n 2, 1) := by decide +kernel
theorem dX1_begin_81 : decode cX1_begin 81 = .ok (.iastore, 1) := by decide +kernel
theorem dX1_begin_82 : decode cX1_begin 82 = .ok (.aload_n 0, 1) := by decide +kernel
theorem dX1_begin_83 : decode cX1_begin 83 = .ok (.dup, 1) := by decide +kernel
theorem dX1_begin_84 : decode cX1_begin 84 = .ok (.getfield 60, 3) := by decide +kernel
theorem dX1_begin_87 : decode cX1_begin 87 = .ok (.iconst 1, 1) := by decide +kernel
theorem dX1_begin_88 : decode cX1_begin 88 = .ok (.iadd, 1) := by decide +kernel
theorem dX1_begin_89 : decode cX1_begin 89 = .ok (.putfield 60, 3) := by decide +kernel
theorem dX1_begin_92 : decode cX1_begin 92 = .ok (.iinc 2 1, 3) := by decide +kernel
theorem dX1_begin_95 : decode cX1_begin 95 = .ok (.goto (-40), 3) := by decide +kernel
theorem dX1_begin_98 : decode cX1_begin 98 = .ok (.aload_n 0, 1) := by decide +kernel
theorem dX1_begin_99 : decode cX1_begin 99 = .ok (.iconst 0, 1) := by decide +kernel
theorem dX1_begin_100 : decode cX1_begin 100 = .ok (.putfield 67, 3) := by decide +kernel
theorem dX1_begin_103 : decode cX1_begin 103 = .ok (.aload_n 0, 1) := by decide +kernel
theorem dX1_begin_104 : decode cX1_begin 104 = .ok (.iconst (-1), 1) := by decide +kernel
theorem dX1_begin_105 : decode cX1_begin 105 = .ok (.putfield 70, 3) := by decide +kernel
theorem dX1_begin_108 : decode cX1_begin 108 = .ok (.aload_n 0, 1) := by decide +kernel
theorem dX1_begin_109 : decode cX1_begin 109 = .ok (.iconst 1, 1) := by decide +kernel
theorem dX1_begin_110 : decode cX1_begin 110 = .ok (.putfield 73, 3) := by decide +kernel
theorem dX1_begin_113 : decode cX1_begin 113 = .ok (.return_, 1) := by decide +kernel
theorem dX1_endUpdate_0 : decode cX1_endUpdate 0 = .ok (.aload_n 0, 1) := by decide +kernel
theorem dX1_endUpdate_1 : decode cX1_endUpdate 1 = .ok (.iconst 0, 1) := by decide +kernel
theorem dX1_endUpdate_2 : decode cX1_endUpdate 2 = .ok (.putfield 73, 3) := by decide +kernel
theorem dX1_endUpdate_5 : decode cX1_endUpdate 5 = .ok (.aload_n 0, 1) := by decide +kernel
theorem dX1_endUpdate_6 : decode cX1_endUpdate 6 = .ok (.iconst 0, 1) := by decide +kernel
theorem dX1_endUpdate_7 : decode cX1_endUpdate 7 = .ok (.putfield 77, 3) := by decide +kernel
theorem dX1_endUpdate_10 : decode cX1_endUpdate 10 = .ok (.return_, 1) := by decide +kernel
theorem dX1_allWrites_0 : decode cX1_allWrites 0 = .ok (.aload_n 0, 1) := by decide +kernel
theorem dX1_allWrites_1 : decode cX1_allWrites 1 = .ok (.getfield 60, 3) := by decide +kernel
theorem dX1_allWrites_4 : decode cX1_allWrites 4 = .ok (.iconst 1, 1) := by decide +kernel
theorem dX1_allWrites_5 : decode cX1_allWrites 5 = .ok (.iadd, 1) := by decide +kernel
theorem dX1_allWrites_6 : decode cX1_allWrites 6 = .ok (.iconst 2, 1) := by decide +kernel
theorem dX1_allWrites_7 : decode cX1_allWrites 7 = .ok (.aload_n 0, 1) := by decide +kernel
theorem dX1_allWrites_8 : decode cX1_allWrites 8 = .ok (.getfield 23, 3) := by decide +kernel
theorem dX1_allWrites_11 : decode cX1_allWrites 11 = .ok (.getfield 80, 3) := by decide +kernel
theorem dX1_allWrites_14 : decode cX1_allWrites 14 = .ok (.imul, 1) := by decide +kernel
theorem dX1_allWrites_15 : decode cX1_allWrites 15 = .ok (.iadd, 1) := by decide +kernel
theorem dX1_allWrites_16 : decode cX1_allWrites 16 = .ok (.iconst 1, 1) := by decide +kernel
theorem dX1_allWrites_17 : decode cX1_allWrites 17 = .ok (.iadd, 1) := by decide +kernel
theorem dX1_allWrites_18 : decode cX1_allWrites 18 = .ok (.ireturn, 1) := by decide +kernel
theorem dX1_writesLeft_0 : decode cX1_writesLeft 0 = .ok (.aload_n 0, 1) := by decide +kernel
theorem dX1_writesLeft_1 : decode cX1_writesLeft 1 = .ok (.getfield 73, 3) := by decide +kernel
theorem dX1_writesLeft_4 : decode cX1_writesLeft 4 = .ok (.ifCond .eq 15, 3) := by decide +kernel
theorem dX1_writesLeft_7 : decode cX1_writesLeft 7 = .ok (.aload_n 0, 1) := by decide +kernel
theorem dX1_writesLeft_8 : decode cX1_writesLeft 8 = .ok (.invokevirtual 81, 3) := by decide +kernel
theorem dX1_writesLeft_11 : decode cX1_writesLeft 11 = .ok (.aload_n 0, 1) := by decide +kernel
theorem dX1_writesLeft_12 : decode cX1_writesLeft 12 = .ok (.getfield 67, 3) := by decide +kernel
theorem dX1_writesLeft_15 : decode cX1_writesLeft 15 = .ok (.isub, 1) := by decide +kernel
theorem dX1_writesLeft_16 : decode cX1_writesLeft 16 = .ok (.goto 4, 3) := by decide +kernel
theorem dX1_writesLeft_19 : decode cX1_writesLeft 19 = .ok (.iconst 0, 1) := by decide +kernel
theorem dX1_writesLeft_20 : decode cX1_writesLeft 20 = .ok (.ireturn, 1) := by decide +kernel
theorem dX1_makeWrites_0 : decode cX1_makeWrites 0 = .ok (.iconst 0, 1) := by decide +kernel
theorem dX1_makeWrites_1 : decode cX1_makeWrites 1 = .ok (.istore_n 2, 1) := by decide +kernel
theorem dX1_makeWrites_2 : decode cX1_makeWrites 2 = .ok (.iload_n 2, 1) := by decide +kernel
theorem dX1_makeWrites_3 : decode cX1_makeWrites 3 = .ok (.iload_n 1, 1) := by decide +kernel
theorem dX1_makeWrites_4 : decode cX1_makeWrites 4 = .ok (.if_icmp .ge 20, 3) := by decide +kernel
theorem dX1_makeWrites_7 : decode cX1_makeWrites 7 = .ok (.aload_n 0, 1) := by decide +kernel
theorem dX1_makeWrites_8 : decode cX1_makeWrites 8 = .ok (.getfield 73, 3) := by decide +kernel
theorem dX1_makeWrites_11 : decode cX1_makeWrites 11 = .ok (.ifCond .eq 13, 3) := by decide +kernel
theorem dX1_makeWrites_14 : decode cX1_makeWrites 14 = .ok (.aload_n 0, 1) := by decide +kernel
theorem dX1_makeWrites_15 : decode cX1_makeWrites 15 = .ok (.invokevirtual 84, 3) := by decide +kernel
theorem dX1_makeWrites_18 : decode cX1_makeWrites 18 = .ok (.iinc 2 1, 3) := by decide +kernel
theorem dX1_makeWrites_21 : decode cX1_makeWrites 21 = .ok (.goto (-19), 3) := by decide +kernel
theorem dX1_makeWrites_24 : decode cX1_makeWrites 24 = .ok (.aload_n 0, 1) := by decide +kernel
theorem dX1_makeWrites_25 : decode cX1_makeWrites 25 = .ok (.dup, 1) := by decide +kernel
theorem dX1_makeWrites_26 : decode cX1_makeWrites 26 = .ok (.getfield 87, 3) := by decide +kernel
theorem dX1_makeWrites_29 : decode cX1_makeWrites 29 = .ok (.iload_n 2, 1) := by decide +kernel
theorem dX1_makeWrites_30 : decode cX1_makeWrites 30 = .ok (.iadd, 1) := by decide +kernel
theorem dX1_makeWrites_31 : decode cX1_makeWrites 31 = .ok (.putfield 87, 3) := by decide +kernel
theorem dX1_makeWrites_34 : decode cX1_makeWrites 34 = .ok (.iload_n 2, 1) := by decide +kernel
theorem dX1_makeWrites_35 : decode cX1_makeWrites 35 = .ok (.ireturn, 1) := by decide +kernel
theorem dX1_makeNextWrite_0 : decode cX1_makeNextWrite 0 = .ok (.aload_n 0, 1) := by decide +kernel
theorem dX1_makeNextWrite_1 : decode cX1_makeNextWrite 1 = .ok (.getfield 67, 3) := by decide +kernel
theorem dX1_makeNextWrite_4 : decode cX1_makeNextWrite 4 = .ok (.aload_n 0, 1) := by decide +kernel
theorem dX1_makeNextWrite_5 : decode cX1_makeNextWrite 5 = .ok (.getfield 60, 3) := by decide +kernel
theorem dX1_makeNextWrite_8 : decode cX1_makeNextWrite 8 = .ok (.isub, 1) := by decide +kernel
theorem dX1_makeNextWrite_9 : decode cX1_makeNextWrite 9 = .ok (.istore_n 1, 1) := by decide +kernel
theorem dX1_makeNextWrite_10 : decode cX1_makeNextWrite 10 = .ok (.iload_n 1, 1) := by decide +kernel
theorem dX1_makeNextWrite_11 : decode cX1_makeNextWrite 11 = .ok (.ifCond .ge 31, 3) := by decide +kernel
theorem dX1_makeNextWrite_14 : decode cX1_makeNextWrite 14 = .ok (.aload_n 0, 1) := by decide +kernel
theorem dX1_makeNextWrite_15 : decode cX1_makeNextWrite 15 = .ok (.getfield 27, 3) := by decide +kernel
theorem dX1_makeNextWrite_18 : decode cX1_makeNextWrite 18 = .ok (.aload_n 0, 1) := by decide +kernel
theorem dX1_makeNextWrite_19 : decode cX1_makeNextWrite 19 = .ok (.getfield 67, 3) := by decide +kernel
theorem dX1_makeNextWrite_22 : decode cX1_makeNextWrite 22 = .ok (.iaload, 1) := by decide +kernel
theorem dX1_makeNextWrite_23 : decode cX1_makeNextWrite 23 = .ok (.istore_n 2, 1) := by decide +kernel
theorem dX1_makeNextWrite_24 : decode cX1_makeNextWrite 24 = .ok (.aload_n 0, 1) := by decide +kernel
theorem dX1_makeNextWrite_25 : decode cX1_makeNextWrite 25 = .ok (.getfield 31, 3) := by decide +kernel
theorem dX1_makeNextWrite_28 : decode cX1_makeNextWrite 28 = .ok (.iload_n 2, 1) := by decide +kernel
theorem dX1_makeNextWrite_29 : decode cX1_makeNextWrite 29 = .ok (.aload_n 0, 1) := by decide +kernel
theorem dX1_makeNextWrite_30 : decode cX1_makeNextWrite 30 = .ok (.getfield 14, 3) := by decide +kernel
theorem dX1_makeNextWrite_33 : decode cX1_makeNextWrite 33 = .ok (.getfield 90, 3) := by decide +kernel
theorem dX1_makeNextWrite_36 : decode cX1_makeNextWrite 36 = .ok (.iload_n 2, 1) := by decide +kernel
theorem dX1_makeNextWrite_37 : decode cX1_makeNextWrite 37 = .ok (.iaload, 1) := by decide +kernel
theorem dX1_makeNextWrite_38 : decode cX1_makeNextWrite 38 = .ok (.iastore, 1) := by decide +kernel
theorem dX1_makeNextWrite_39 : decode cX1_makeNextWrite 39 = .ok (.goto 60, 3) := by decide +kernel
theorem dX1_makeNextWrite_42 : decode cX1_makeNextWrite 42 = .ok (.aload_n 0, 1) := by decide +kernel
theorem dX1_makeNextWrite_43 : decode cX1_makeNextWrite 43 = .ok (.getfield 67, 3) := by decide +kernel
theorem dX1_makeNextWrite_46 : decode cX1_makeNextWrite 46 = .ok (.iconst 1, 1) := by decide +kernel
theorem dX1_makeNextWrite_47 : decode cX1_makeNextWrite 47 = .ok (.iadd, 1) := by decide +kernel
theorem dX1_makeNextWrite_48 : decode cX1_makeNextWrite 48 = .ok (.aload_n 0, 1) := by decide +kernel
theorem dX1_makeNextWrite_49 : decode cX1_makeNextWrite 49 = .ok (.invokevirtual 81, 3) := by decide +kernel
theorem dX1_makeNextWrite_52 : decode cX1_makeNextWrite 52 = .ok (.if_icmp .lt 24, 3) := by decide +kernel
theorem dX1_makeNextWrite_55 : decode cX1_makeNextWrite 55 = .ok (.aload_n 0, 1) := by decide +kernel
theorem dX1_makeNextWrite_56 : decode cX1_makeNextWrite 56 = .ok (.getfield 14, 3) := by decide +kernel
theorem dX1_makeNextWrite_59 : decode cX1_makeNextWrite 59 = .ok (.aload_n 0, 1) := by decide +kernel
theorem dX1_makeNextWrite_60 : decode cX1_makeNextWrite 60 = .ok (.getfield 23, 3) := by decide +kernel
theorem dX1_makeNextWrite_63 : decode cX1_makeNextWrite 63 = .ok (.getfield 80, 3) := by decide +kernel
theorem dX1_makeNextWrite_66 : decode cX1_makeNextWrite 66 = .ok (.putfield 34, 3) := by decide +kernel
theorem dX1_makeNextWrite_69 : decode cX1_makeNextWrite 69 = .ok (.aload_n 0, 1) := by decide +kernel
theorem dX1_makeNextWrite_70 : decode cX1_makeNextWrite 70 = .ok (.invokevirtual 42, 3) := by decide +kernel
theorem dX1_makeNextWrite_73 : decode cX1_makeNextWrite 73 = .ok (.goto 26, 3) := by decide +kernel
theorem dX1_makeNextWrite_76 : decode cX1_makeNextWrite 76 = .ok (.iload_n 1, 1) := by decide +kernel
theorem dX1_makeNextWrite_77 : decode cX1_makeNextWrite 77 = .ok (.iconst 2, 1) := by decide +kernel
theorem dX1_makeNextWrite_78 : decode cX1_makeNextWrite 78 = .ok (.irem, 1) := by decide +kernel
theorem dX1_makeNextWrite_79 : decode cX1_makeNextWrite 79 = .ok (.ifCond .ne 13, 3) := by decide +kernel
theorem dX1_makeNextWrite_82 : decode cX1_makeNextWrite 82 = .ok (.aload_n 0, 1) := by decide +kernel
theorem dX1_makeNextWrite_83 : decode cX1_makeNextWrite 83 = .ok (.iload_n 1, 1) := by decide +kernel
theorem dX1_makeNextWrite_84 : decode cX1_makeNextWrite 84 = .ok (.iconst 2, 1) := by decide +kernel
theorem dX1_makeNextWrite_85 : decode cX1_makeNextWrite 85 = .ok (.idiv, 1) := by decide +kernel
theorem dX1_makeNextWrite_86 : decode cX1_makeNextWrite 86 = .ok (.putfield 70, 3) := by decide +kernel
theorem dX1_makeNextWrite_89 : decode cX1_makeNextWrite 89 = .ok (.goto 10, 3) := by decide +kernel
theorem dX1_makeNextWrite_92 : decode cX1_makeNextWrite 92 = .ok (.aload_n 0, 1) := by decide +kernel
theorem dX1_makeNextWrite_93 : decode cX1_makeNextWrite 93 = .ok (.iload_n 1, 1) := by decide +kernel
theorem dX1_makeNextWrite_94 : decode cX1_makeNextWrite 94 = .ok (.iconst 2, 1) := by decide +kernel
theorem dX1_makeNextWrite_95 : decode cX1_makeNextWrite 95 = .ok (.idiv, 1) := by decide +kernel
theorem dX1_makeNextWrite_96 : decode cX1_makeNextWrite 96 = .ok (.invokevirtual 93, 3) := by decide +kernel
theorem dX1_makeNextWrite_99 : decode cX1_makeNextWrite 99 = .ok (.aload_n 0, 1) := by decide +kernel
theorem dX1_makeNextWrite_100 : decode cX1_makeNextWrite 100 = .ok (.dup, 1) := by decide +kernel
theorem dX1_makeNextWrite_101 : decode cX1_makeNextWrite 101 = .ok (.getfield 67, 3) := by decide +kernel
theorem dX1_makeNextWrite_104 : decode cX1_makeNextWrite 104 = .ok (.iconst 1, 1) := by decide +kernel
theorem dX1_makeNextWrite_105 : decode cX1_makeNextWrite 105 = .ok (.iadd, 1) := by decide +kernel
theorem dX1_makeNextWrite_106 : decode cX1_makeNextWrite 106 = .ok (.putfield 67, 3) := by decide +kernel
theorem dX1_makeNextWrite_109 : decode cX1_makeNextWrite 109 = .ok (.return_, 1) := by decide +kernel
theorem dX1_writeNewByte_0 : decode cX1_writeNewByte 0 = .ok (.aload_n 0, 1) := by decide +kernel
theorem dX1_writeNewByte_1 : decode cX1_writeNewByte 1 = .ok (.getfield 57, 3) := by decide +kernel
theorem dX1_writeNewByte_4 : decode cX1_writeNewByte 4 = .ok (.ifCond .ne 7, 3) := by decide +kernel
theorem dX1_writeNewByte_7 : decode cX1_writeNewByte 7 = .ok (.iload_n 1, 1) := by decide +kernel
theorem dX1_writeNewByte_8 : decode cX1_writeNewByte 8 = .ok (.goto 14, 3) := by decide +kernel
theorem dX1_writeNewByte_11 : decode cX1_writeNewByte 11 = .ok (.aload_n 0, 1) := by decide +kernel
theorem dX1_writeNewByte_12 : decode cX1_writeNewByte 12 = .ok (.getfield 23, 3) := by decide +kernel
theorem dX1_writeNewByte_15 : decode cX1_writeNewByte 15 = .ok (.getfield 80, 3) := by decide +kernel
theorem dX1_writeNewByte_18 : decode cX1_writeNewByte 18 = .ok (.iconst 1, 1) := by decide +kernel
theorem dX1_writeNewByte_19 : decode cX1_writeNewByte 19 = .ok (.isub, 1) := by decide +kernel
theorem dX1_writeNewByte_20 : decode cX1_writeNewByte 20 = .ok (.iload_n 1, 1) := by decide +kernel
theorem dX1_writeNewByte_21 : decode cX1_writeNewByte 21 = .ok (.isub, 1) := by decide +kernel
theorem dX1_writeNewByte_22 : decode cX1_writeNewByte 22 = .ok (.istore_n 2, 1) := by decide +kernel
theorem dX1_writeNewByte_23 : decode cX1_writeNewByte 23 = .ok (.iload_n 2, 1) := by decide +kernel
theorem dX1_writeNewByte_24 : decode cX1_writeNewByte 24 = .ok (.ifCond .lt 14, 3) := by decide +kernel
theorem dX1_writeNewByte_27 : decode cX1_writeNewByte 27 = .ok (.iload_n 2, 1) := by decide +kernel
theorem dX1_writeNewByte_28 : decode cX1_writeNewByte 28 = .ok (.aload_n 0, 1) := by decide +kernel
theorem dX1_writeNewByte_29 : decode cX1_writeNewByte 29 = .ok (.getfield 23, 3) := by decide +kernel
theorem dX1_writeNewByte_32 : decode cX1_writeNewByte 32 = .ok (.getfield 80, 3) := by decide +kernel
theorem dX1_writeNewByte_35 : decode cX1_writeNewByte 35 = .ok (.if_icmp .lt 4, 3) := by decide +kernel
theorem dX1_writeNewByte_38 : decode cX1_writeNewByte 38 = .ok (.return_, 1) := by decide +kernel
theorem dX1_writeNewByte_39 : decode cX1_writeNewByte 39 = .ok (.aload_n 0, 1) := by decide +kernel
theorem dX1_writeNewByte_40 : decode cX1_writeNewByte 40 = .ok (.getfield 14, 3) := by decide +kernel
theorem dX1_writeNewByte_43 : decode cX1_writeNewByte 43 = .ok (.getfield 90, 3) := by decide +kernel
theorem dX1_writeNewByte_46 : decode cX1_writeNewByte 46 = .ok (.iload_n 2, 1) := by decide +kernel
theorem dX1_writeNewByte_47 : decode cX1_writeNewByte 47 = .ok (.aload_n 0, 1) := by decide +kernel
theorem dX1_writeNewByte_48 : decode cX1_writeNewByte 48 = .ok (.aload_n 0, 1) := by decide +kernel
theorem dX1_writeNewByte_49 : decode cX1_writeNewByte 49 = .ok (.getfield 23, 3) := by decide +kernel
theorem dX1_writeNewByte_52 : decode cX1_writeNewByte 52 = .ok (.getfield 96, 3) := by decide +kernel
theorem dX1_writeNewByte_55 : decode cX1_writeNewByte 55 = .ok (.iload_n 2, 1) := by decide +kernel
theorem dX1_writeNewByte_56 : decode cX1_writeNewByte 56 = .ok (.iaload, 1) := by decide +kernel
theorem dX1_writeNewByte_57 : decode cX1_writeNewByte 57 = .ok (.invokevirtual 99, 3) := by decide +kernel
theorem dX1_writeNewByte_60 : decode cX1_writeNewByte 60 = .ok (.aload_n 0, 1) := by decide +kernel
theorem dX1_writeNewByte_61 : decode cX1_writeNewByte 61 = .ok (.getfield 23, 3) := by decide +kernel
theorem dX1_writeNewByte_64 : decode cX1_writeNewByte 64 = .ok (.getfield 102, 3) := by decide +kernel
theorem dX1_writeNewByte_67 : decode cX1_writeNewByte 67 = .ok (.iload_n 2, 1) := by decide +kernel
theorem dX1_writeNewByte_68 : decode cX1_writeNewByte 68 = .ok (.iaload, 1) := by decide +kernel
theorem dX1_writeNewByte_69 : decode cX1_writeNewByte 69 = .ok (.iadd, 1) := by decide +kernel
theorem dX1_writeNewByte_70 : decode cX1_writeNewByte 70 = .ok (.sipush 255, 3) := by decide +kernel
theorem dX1_writeNewByte_73 : decode cX1_writeNewByte 73 = .ok (.iand, 1) := by decide +kernel
theorem dX1_writeNewByte_74 : decode cX1_writeNewByte 74 = .ok (.iastore, 1) := by decide +kernel
theorem dX1_writeNewByte_75 : decode cX1_writeNewByte 75 = .ok (.return_, 1) := by decide +kernel
theorem dX1_oldByte_0 : decode cX1_oldByte 0 = .ok (.iload_n 1, 1) := by decide +kernel
theorem dX1_oldByte_1 : decode cX1_oldByte 1 = .ok (.ifCond .lt 9, 3) := by decide +kernel
theorem dX1_oldByte_4 : decode cX1_oldByte 4 = .ok (.iload_n 1, 1) := by decide +kernel
theorem dX1_oldByte_5 : decode cX1_oldByte 5 = .ok (.bipush 120, 2) := by decide +kernel
theorem dX1_oldByte_7 : decode cX1_oldByte 7 = .ok (.if_icmp .lt 5, 3) := by decide +kernel
theorem dX1_oldByte_10 : decode cX1_oldByte 10 = .ok (.iconst 0, 1) := by decide +kernel
theorem dX1_oldByte_11 : decode cX1_oldByte 11 = .ok (.ireturn, 1) := by decide +kernel
theorem dX1_oldByte_12 : decode cX1_oldByte 12 = .ok (.aload_n 0, 1) := by decide +kernel
theorem dX1_oldByte_13 : decode cX1_oldByte 13 = .ok (.getfield 23, 3) := by decide +kernel
theorem dX1_oldByte_16 : decode cX1_oldByte 16 = .ok (.iload_n 1, 1) := by decide +kernel
theorem dX1_oldByte_17 : decode cX1_oldByte 17 = .ok (.invokevirtual 63, 3) := by decide +kernel
theorem dX1_oldByte_20 : decode cX1_oldByte 20 = .ok (.ifCond .eq 12, 3) := by decide +kernel
theorem dX1_oldByte_23 : decode cX1_oldByte 23 = .ok (.aload_n 0, 1) := by decide +kernel
theorem dX1_oldByte_24 : decode cX1_oldByte 24 = .ok (.getfield 31, 3) := by decide +kernel
theorem dX1_oldByte_27 : decode cX1_oldByte 27 = .ok (.iload_n 1, 1) := by decide +kernel
theorem dX1_oldByte_28 : decode cX1_oldByte 28 = .ok (.iaload, 1) := by decide +kernel
theorem dX1_oldByte_29 : decode cX1_oldByte 29 = .ok (.goto 12, 3) := by decide +kernel
theorem dX1_oldByte_32 : decode cX1_oldByte 32 = .ok (.aload_n 0, 1) := by decide +kernel
theorem dX1_oldByte_33 : decode cX1_oldByte 33 = .ok (.getfield 14, 3) := by decide +kernel
theorem dX1_oldByte_36 : decode cX1_oldByte 36 = .ok (.getfield 90, 3) := by decide +kernel
theorem dX1_oldByte_39 : decode cX1_oldByte 39 = .ok (.iload_n 1, 1) := by decide +kernel
theorem dX1_oldByte_40 : decode cX1_oldByte 40 = .ok (.iaload, 1) := by decide +kernel
theorem dX1_oldByte_41 : decode cX1_oldByte 41 = .ok (.ireturn, 1) := by decide +kernel
theorem dX1_resume_0 : decode cX1_resume 0 = .ok (.aload_n 0, 1) := by decide +kernel
theorem dX1_resume_1 : decode cX1_resume 1 = .ok (.iconst 0, 1) := by decide +kernel
theorem dX1_resume_2 : decode cX1_resume 2 = .ok (.putfield 77, 3) := by decide +kernel
theorem dX1_resume_5 : decode cX1_resume 5 = .ok (.aload_n 0, 1) := by decide +kernel
theorem dX1_resume_6 : decode cX1_resume 6 = .ok (.aload_n 0, 1) := by decide +kernel
theorem dX1_resume_7 : decode cX1_resume 7 = .ok (.getfield 70, 3) := by decide +kernel
theorem dX1_resume_10 : decode cX1_resume 10 = .ok (.iconst (-1), 1) := by decide +kernel
theorem dX1_resume_11 : decode cX1_resume 11 = .ok (.if_icmp .ne 7, 3) := by decide +kernel
theorem dX1_resume_14 : decode cX1_resume 14 = .ok (.iconst 0, 1) := by decide +kernel
theorem dX1_resume_15 : decode cX1_resume 15 = .ok (.goto 16, 3) := by decide +kernel
theorem dX1_resume_18 : decode cX1_resume 18 = .ok (.aload_n 0, 1) := by decide +kernel
theorem dX1_resume_19 : decode cX1_resume 19 = .ok (.getfield 60, 3) := by decide +kernel
theorem dX1_resume_22 : decode cX1_resume 22 = .ok (.iconst 1, 1) := by decide +kernel
theorem dX1_resume_23 : decode cX1_resume 23 = .ok (.iadd, 1) := by decide +kernel
theorem dX1_resume_24 : decode cX1_resume 24 = .ok (.iconst 2, 1) := by decide +kernel
theorem dX1_resume_25 : decode cX1_resume 25 = .ok (.aload_n 0, 1) := by decide +kernel
theorem dX1_resume_26 : decode cX1_resume 26 = .ok (.getfield 70, 3) := by decide +kernel
theorem dX1_resume_29 : decode cX1_resume 29 = .ok (.imul, 1) := by decide +kernel
theorem dX1_resume_30 : decode cX1_resume 30 = .ok (.iadd, 1) := by decide +kernel
theorem dX1_resume_31 : decode cX1_resume 31 = .ok (.putfield 67, 3) := by decide +kernel
theorem dX1_resume_34 : decode cX1_resume 34 = .ok (.return_, 1) := by decide +kernel
theorem dX1_tell_0 : decode cX1_tell 0 = .ok (.iload_n 1, 1) := by decide +kernel
theorem dX1_tell_1 : decode cX1_tell 1 = .ok (.tableswitch 143 0 6 #[43, 51, 59, 83, 88, 111, 127], 43) := by decide +kernel
theorem dX1_tell_44 : decode cX1_tell 44 = .ok (.aload_n 0, 1) := by decide +kernel
theorem dX1_tell_45 : decode cX1_tell 45 = .ok (.getfield 14, 3) := by decide +kernel
theorem dX1_tell_48 : decode cX1_tell 48 = .ok (.getfield 34, 3) := by decide +kernel
theorem dX1_tell_51 : decode cX1_tell 51 = .ok (.ireturn, 1) := by decide +kernel
theorem dX1_tell_52 : decode cX1_tell 52 = .ok (.aload_n 0, 1) := by decide +kernel
theorem dX1_tell_53 : decode cX1_tell 53 = .ok (.getfield 14, 3) := by decide +kernel
theorem dX1_tell_56 : decode cX1_tell 56 = .ok (.invokevirtual 45, 3) := by decide +kernel
theorem dX1_tell_59 : decode cX1_tell 59 = .ok (.ireturn, 1) := by decide +kernel
theorem dX1_tell_60 : decode cX1_tell 60 = .ok (.aload_n 0, 1) := by decide +kernel
theorem dX1_tell_61 : decode cX1_tell 61 = .ok (.getfield 73, 3) := by decide +kernel
theorem dX1_tell_64 : decode cX1_tell 64 = .ok (.ifCond .ne 7, 3) := by decide +kernel
theorem dX1_tell_67 : decode cX1_tell 67 = .ok (.iconst 0, 1) := by decide +kernel
theorem dX1_tell_68 : decode cX1_tell 68 = .ok (.goto 15, 3) := by decide +kernel
theorem dX1_tell_71 : decode cX1_tell 71 = .ok (.aload_n 0, 1) := by decide +kernel
theorem dX1_tell_72 : decode cX1_tell 72 = .ok (.getfield 77, 3) := by decide +kernel
theorem dX1_tell_75 : decode cX1_tell 75 = .ok (.ifCond .eq 7, 3) := by decide +kernel
theorem dX1_tell_78 : decode cX1_tell 78 = .ok (.iconst 2, 1) := by decide +kernel
theorem dX1_tell_79 : decode cX1_tell 79 = .ok (.goto 4, 3) := by decide +kernel
theorem dX1_tell_82 : decode cX1_tell 82 = .ok (.iconst 1, 1) := by decide +kernel
theorem dX1_tell_83 : decode cX1_tell 83 = .ok (.ireturn, 1) := by decide +kernel
theorem dX1_tell_84 : decode cX1_tell 84 = .ok (.aload_n 0, 1) := by decide +kernel
theorem dX1_tell_85 : decode cX1_tell 85 = .ok (.getfield 87, 3) := by decide +kernel
theorem dX1_tell_88 : decode cX1_tell 88 = .ok (.ireturn, 1) := by decide +kernel
theorem dX1_tell_89 : decode cX1_tell 89 = .ok (.aload_n 0, 1) := by decide +kernel
theorem dX1_tell_90 : decode cX1_tell 90 = .ok (.getfield 73, 3) := by decide +kernel
theorem dX1_tell_93 : decode cX1_tell 93 = .ok (.ifCond .eq 17, 3) := by decide +kernel
theorem dX1_tell_96 : decode cX1_tell 96 = .ok (.aload_n 0, 1) := by decide +kernel
theorem dX1_tell_97 : decode cX1_tell 97 = .ok (.getfield 67, 3) := by decide +kernel
theorem dX1_tell_100 : decode cX1_tell 100 = .ok (.aload_n 0, 1) := by decide +kernel
theorem dX1_tell_101 : decode cX1_tell 101 = .ok (.getfield 60, 3) := by decide +kernel
theorem dX1_tell_104 : decode cX1_tell 104 = .ok (.invokestatic 105, 3) := by decide +kernel
theorem dX1_tell_107 : decode cX1_tell 107 = .ok (.goto 4, 3) := by decide +kernel
theorem dX1_tell_110 : decode cX1_tell 110 = .ok (.iconst 0, 1) := by decide +kernel
theorem dX1_tell_111 : decode cX1_tell 111 = .ok (.ireturn, 1) := by decide +kernel
theorem dX1_tell_112 : decode cX1_tell 112 = .ok (.aload_n 0, 1) := by decide +kernel
theorem dX1_tell_113 : decode cX1_tell 113 = .ok (.getfield 73, 3) := by decide +kernel
theorem dX1_tell_116 : decode cX1_tell 116 = .ok (.ifCond .eq 10, 3) := by decide +kernel
theorem dX1_tell_119 : decode cX1_tell 119 = .ok (.aload_n 0, 1) := by decide +kernel
theorem dX1_tell_120 : decode cX1_tell 120 = .ok (.getfield 70, 3) := by decide +kernel
theorem dX1_tell_123 : decode cX1_tell 123 = .ok (.goto 4, 3) := by decide +kernel
theorem dX1_tell_126 : decode cX1_tell 126 = .ok (.iconst (-1), 1) := by decide +kernel
theorem dX1_tell_127 : decode cX1_tell 127 = .ok (.ireturn, 1) := by decide +kernel
theorem dX1_tell_128 : decode cX1_tell 128 = .ok (.aload_n 0, 1) := by decide +kernel
theorem dX1_tell_129 : decode cX1_tell 129 = .ok (.getfield 73, 3) := by decide +kernel
theorem dX1_tell_132 : decode cX1_tell 132 = .ok (.ifCond .eq 10, 3) := by decide +kernel
theorem dX1_tell_135 : decode cX1_tell 135 = .ok (.aload_n 0, 1) := by decide +kernel
theorem dX1_tell_136 : decode cX1_tell 136 = .ok (.getfield 57, 3) := by decide +kernel
theorem dX1_tell_139 : decode cX1_tell 139 = .ok (.goto 4, 3) := by decide +kernel
theorem dX1_tell_142 : decode cX1_tell 142 = .ok (.iconst (-1), 1) := by decide +kernel
theorem dX1_tell_143 : decode cX1_tell 143 = .ok (.ireturn, 1) := by decide +kernel
theorem dX1_tell_144 : decode cX1_tell 144 = .ok (.iconst (-1), 1) := by decide +kernel
theorem dX1_tell_145 : decode cX1_tell 145 = .ok (.ireturn, 1) := by decide +kernel
theorem dX1_areaByte_0 : decode cX1_areaByte 0 = .ok (.iload_n 1, 1) := by decide +kernel
theorem dX1_areaByte_1 : decode cX1_areaByte 1 = .ok (.ifCond .lt 21, 3) := by decide +kernel
theorem dX1_areaByte_4 : decode cX1_areaByte 4 = .ok (.iload_n 1, 1) := by decide +kernel
theorem dX1_areaByte_5 : decode cX1_areaByte 5 = .ok (.bipush 120, 2) := by decide +kernel
theorem dX1_areaByte_7 : decode cX1_areaByte 7 = .ok (.if_icmp .ge 15, 3) := by decide +kernel
theorem dX1_areaByte_10 : decode cX1_areaByte 10 = .ok (.aload_n 0, 1) := by decide +kernel
theorem dX1_areaByte_11 : decode cX1_areaByte 11 = .ok (.getfield 14, 3) := by decide +kernel
theorem dX1_areaByte_14 : decode cX1_areaByte 14 = .ok (.getfield 90, 3) := by decide +kernel
theorem dX1_areaByte_17 : decode cX1_areaByte 17 = .ok (.iload_n 1, 1) := by decide +kernel
theorem dX1_areaByte_18 : decode cX1_areaByte 18 = .ok (.iaload, 1) := by decide +kernel
theorem dX1_areaByte_19 : decode cX1_areaByte 19 = .ok (.goto 4, 3) := by decide +kernel
theorem dX1_areaByte_22 : decode cX1_areaByte 22 = .ok (.iconst (-1), 1) := by decide +kernel
theorem dX1_areaByte_23 : decode cX1_areaByte 23 = .ok (.ireturn, 1) := by decide +kernel
theorem dX2_init_0 : decode cX2_init 0 = .ok (.aload_n 0, 1) := by decide +kernel
theorem dX2_init_1 : decode cX2_init 1 = .ok (.invokespecial 3, 3) := by decide +kernel
theorem dX2_init_4 : decode cX2_init 4 = .ok (.aload_n 0, 1) := by decide +kernel
theorem dX2_init_5 : decode cX2_init 5 = .ok (.iconst 5, 1) := by decide +kernel
theorem dX2_init_6 : decode cX2_init 6 = .ok (.newarray .int, 2) := by decide +kernel
theorem dX2_init_8 : decode cX2_init 8 = .ok (.putfield 9, 3) := by decide +kernel
theorem dX2_init_11 : decode cX2_init 11 = .ok (.aload_n 0, 1) := by decide +kernel
theorem dX2_init_12 : decode cX2_init 12 = .ok (.bipush 10, 2) := by decide +kernel
theorem dX2_init_14 : decode cX2_init 14 = .ok (.newarray .int, 2) := by decide +kernel
theorem dX2_init_16 : decode cX2_init 16 = .ok (.putfield 15, 3) := by decide +kernel
theorem dX2_init_19 : decode cX2_init 19 = .ok (.aload_n 0, 1) := by decide +kernel
theorem dX2_init_20 : decode cX2_init 20 = .ok (.iconst 5, 1) := by decide +kernel
theorem dX2_init_21 : decode cX2_init 21 = .ok (.newarray .int, 2) := by decide +kernel
theorem dX2_init_23 : decode cX2_init 23 = .ok (.putfield 18, 3) := by decide +kernel
theorem dX2_init_26 : decode cX2_init 26 = .ok (.return_, 1) := by decide +kernel
theorem dX2_setDevices_0 : decode cX2_setDevices 0 = .ok (.aload_n 0, 1) := by decide +kernel
theorem dX2_setDevices_1 : decode cX2_setDevices 1 = .ok (.getfield 9, 3) := by decide +kernel
theorem dX2_setDevices_4 : decode cX2_setDevices 4 = .ok (.iload_n 1, 1) := by decide +kernel
theorem dX2_setDevices_5 : decode cX2_setDevices 5 = .ok (.iload_n 2, 1) := by decide +kernel
theorem dX2_setDevices_6 : decode cX2_setDevices 6 = .ok (.iastore, 1) := by decide +kernel
theorem dX2_setDevices_7 : decode cX2_setDevices 7 = .ok (.return_, 1) := by decide +kernel
theorem dX2_holdPair_0 : decode cX2_holdPair 0 = .ok (.iload_n 1, 1) := by decide +kernel
theorem dX2_holdPair_1 : decode cX2_holdPair 1 = .ok (.iload_n 2, 1) := by decide +kernel
theorem dX2_holdPair_2 : decode cX2_holdPair 2 = .ok (.invokestatic 21, 3) := by decide +kernel
theorem dX2_holdPair_5 : decode cX2_holdPair 5 = .ok (.istore 4, 2) := by decide +kernel
theorem dX2_holdPair_7 : decode cX2_holdPair 7 = .ok (.iload 4, 2) := by decide +kernel
theorem dX2_holdPair_9 : decode cX2_holdPair 9 = .ok (.ifCond .eq 22, 3) := by decide +kernel
theorem dX2_holdPair_12 : decode cX2_holdPair 12 = .ok (.aload_n 0, 1) := by decide +kernel
theorem dX2_holdPair_13 : decode cX2_holdPair 13 = .ok (.getfield 25, 3) := by decide +kernel
theorem dX2_holdPair_16 : decode cX2_holdPair 16 = .ok (.iload 4, 2) := by decide +kernel
theorem dX2_holdPair_18 : decode cX2_holdPair 18 = .ok (.iand, 1) := by decide +kernel
theorem dX2_holdPair_19 : decode cX2_holdPair 19 = .ok (.ifCond .eq 7, 3) := by decide +kernel
theorem dX2_holdPair_22 : decode cX2_holdPair 22 = .ok (.iconst 1, 1) := by decide +kernel
theorem dX2_holdPair_23 : decode cX2_holdPair 23 = .ok (.goto 4, 3) := by decide +kernel
theorem dX2_holdPair_26 : decode cX2_holdPair 26 = .ok (.iconst 0, 1) := by decide +kernel
theorem dX2_holdPair_27 : decode cX2_holdPair 27 = .ok (.iload_n 3, 1) := by decide +kernel
theorem dX2_holdPair_28 : decode cX2_holdPair 28 = .ok (.if_icmp .ne 5, 3) := by decide +kernel
theorem dX2_holdPair_31 : decode cX2_holdPair 31 = .ok (.iconst 0, 1) := by decide +kernel
theorem dX2_holdPair_32 : decode cX2_holdPair 32 = .ok (.ireturn, 1) := by decide +kernel
theorem dX2_holdPair_33 : decode cX2_holdPair 33 = .ok (.aload_n 0, 1) := by decide +kernel
theorem dX2_holdPair_34 : decode cX2_holdPair 34 = .ok (.dup, 1) := by decide +kernel
theorem dX2_holdPair_35 : decode cX2_holdPair 35 = .ok (.getfield 25, 3) := by decide +kernel
theorem dX2_holdPair_38 : decode cX2_holdPair 38 = .ok (.iload 4, 2) := by decide +kernel
theorem dX2_holdPair_40 : decode cX2_holdPair 40 = .ok (.ixor, 1) := by decide +kernel
theorem dX2_holdPair_41 : decode cX2_holdPair 41 = .ok (.putfield 25, 3) := by decide +kernel
theorem dX2_holdPair_44 : decode cX2_holdPair 44 = .ok (.iconst 1, 1) := by decide +kernel
theorem dX2_holdPair_45 : decode cX2_holdPair 45 = .ok (.ireturn, 1) := by decide +kernel
theorem dX2_bitOf_0 : decode cX2_bitOf 0 = .ok (.iconst 0, 1) := by decide +kernel
theorem dX2_bitOf_1 : decode cX2_bitOf 1 = .ok (.istore_n 2, 1) := by decide +kernel
theorem dX2_bitOf_2 : decode cX2_bitOf 2 = .ok (.iload_n 2, 1) := by decide +kernel
theorem dX2_bitOf_3 : decode cX2_bitOf 3 = .ok (.bipush 10, 2) := by decide +kernel
theorem dX2_bitOf_5 : decode cX2_bitOf 5 = .ok (.if_icmp .ge 31, 3) := by decide +kernel
theorem dX2_bitOf_8 : decode cX2_bitOf 8 = .ok (.getstatic 29, 3) := by decide +kernel
theorem dX2_bitOf_11 : decode cX2_bitOf 11 = .ok (.iload_n 2, 1) := by decide +kernel
theorem dX2_bitOf_12 : decode cX2_bitOf 12 = .ok (.iaload, 1) := by decide +kernel
theorem dX2_bitOf_13 : decode cX2_bitOf 13 = .ok (.iload_n 0, 1) := by decide +kernel
theorem dX2_bitOf_14 : decode cX2_bitOf 14 = .ok (.if_icmp .ne 16, 3) := by decide +kernel
theorem dX2_bitOf_17 : decode cX2_bitOf 17 = .ok (.getstatic 32, 3) := by decide +kernel
theorem dX2_bitOf_20 : decode cX2_bitOf 20 = .ok (.iload_n 2, 1) := by decide +kernel
theorem dX2_bitOf_21 : decode cX2_bitOf 21 = .ok (.iaload, 1) := by decide +kernel
theorem dX2_bitOf_22 : decode cX2_bitOf 22 = .ok (.iload_n 1, 1) := by decide +kernel
theorem dX2_bitOf_23 : decode cX2_bitOf 23 = .ok (.if_icmp .ne 7, 3) := by decide +kernel
theorem dX2_bitOf_26 : decode cX2_bitOf 26 = .ok (.iconst 1, 1) := by decide +kernel
theorem dX2_bitOf_27 : decode cX2_bitOf 27 = .ok (.iload_n 2, 1) := by decide +kernel
theorem dX2_bitOf_28 : decode cX2_bitOf 28 = .ok (.ishl, 1) := by decide +kernel
theorem dX2_bitOf_29 : decode cX2_bitOf 29 = .ok (.ireturn, 1) := by decide +kernel
theorem dX2_bitOf_30 : decode cX2_bitOf 30 = .ok (.iinc 2 1, 3) := by decide +kernel
theorem dX2_bitOf_33 : decode cX2_bitOf 33 = .ok (.goto (-31), 3) := by decide +kernel
theorem dX2_bitOf_36 : decode cX2_bitOf 36 = .ok (.iconst 0, 1) := by decide +kernel
theorem dX2_bitOf_37 : decode cX2_bitOf 37 = .ok (.ireturn, 1) := by decide +kernel
theorem dX2_learnPrices_0 : decode cX2_learnPrices 0 = .ok (.aload_n 0, 1) := by decide +kernel
theorem dX2_learnPrices_1 : decode cX2_learnPrices 1 = .ok (.aload_n 1, 1) := by decide +kernel
theorem dX2_learnPrices_2 : decode cX2_learnPrices 2 = .ok (.invokevirtual 35, 3) := by decide +kernel
theorem dX2_learnPrices_5 : decode cX2_learnPrices 5 = .ok (.putfield 41, 3) := by decide +kernel
theorem dX2_learnPrices_8 : decode cX2_learnPrices 8 = .ok (.aload_n 0, 1) := by decide +kernel
theorem dX2_learnPrices_9 : decode cX2_learnPrices 9 = .ok (.aload_n 0, 1) := by decide +kernel
theorem dX2_learnPrices_10 : decode cX2_learnPrices 10 = .ok (.getfield 41, 3) := by decide +kernel
theorem dX2_learnPrices_13 : decode cX2_learnPrices 13 = .ok (.iconst (-1), 1) := by decide +kernel
theorem dX2_learnPrices_14 : decode cX2_learnPrices 14 = .ok (.if_icmp .ne 7, 3) := by decide +kernel
theorem dX2_learnPrices_17 : decode cX2_learnPrices 17 = .ok (.iconst 0, 1) := by decide +kernel
theorem dX2_learnPrices_18 : decode cX2_learnPrices 18 = .ok (.goto 16, 3) := by decide +kernel
theorem dX2_learnPrices_21 : decode cX2_learnPrices 21 = .ok (.iconst 3, 1) := by decide +kernel
theorem dX2_learnPrices_22 : decode cX2_learnPrices 22 = .ok (.aload_n 1, 1) := by decide +kernel
theorem dX2_learnPrices_23 : decode cX2_learnPrices 23 = .ok (.aload_n 0, 1) := by decide +kernel
theorem dX2_learnPrices_24 : decode cX2_learnPrices 24 = .ok (.getfield 41, 3) := by decide +kernel
theorem dX2_learnPrices_27 : decode cX2_learnPrices 27 = .ok (.invokevirtual 44, 3) := by decide +kernel
theorem dX2_learnPrices_30 : decode cX2_learnPrices 30 = .ok (.getfield 48, 3) := by decide +kernel
theorem dX2_learnPrices_33 : decode cX2_learnPrices 33 = .ok (.iadd, 1) := by decide +kernel
theorem dX2_learnPrices_34 : decode cX2_learnPrices 34 = .ok (.putfield 53, 3) := by decide +kernel
theorem dX2_learnPrices_37 : decode cX2_learnPrices 37 = .ok (.iconst 0, 1) := by decide +kernel
theorem dX2_learnPrices_38 : decode cX2_learnPrices 38 = .ok (.istore_n 3, 1) := by decide +kernel
theorem dX2_learnPrices_39 : decode cX2_learnPrices 39 = .ok (.iload_n 3, 1) := by decide +kernel
theorem dX2_learnPrices_40 : decode cX2_learnPrices 40 = .ok (.bipush 10, 2) := by decide +kernel
theorem dX2_learnPrices_42 : decode cX2_learnPrices 42 = .ok (.if_icmp .ge 53, 3) := by decide +kernel
theorem dX2_learnPrices_45 : decode cX2_learnPrices 45 = .ok (.iload_n 2, 1) := by decide +kernel
theorem dX2_learnPrices_46 : decode cX2_learnPrices 46 = .ok (.iconst 1, 1) := by decide +kernel
theorem dX2_learnPrices_47 : decode cX2_learnPrices 47 = .ok (.iload_n 3, 1) := by decide +kernel
theorem dX2_learnPrices_48 : decode cX2_learnPrices 48 = .ok (.ishl, 1) := by decide +kernel
theorem dX2_learnPrices_49 : decode cX2_learnPrices 49 = .ok (.iand, 1) := by decide +kernel
theorem dX2_learnPrices_50 : decode cX2_learnPrices 50 = .ok (.ifCond .eq 7, 3) := by decide +kernel
theorem dX2_learnPrices_53 : decode cX2_learnPrices 53 = .ok (.iconst 1, 1) := by decide +kernel
theorem dX2_learnPrices_54 : decode cX2_learnPrices 54 = .ok (.goto 4, 3) := by decide +kernel
theorem dX2_learnPrices_57 : decode cX2_learnPrices 57 = .ok (.iconst 0, 1) := by decide +kernel
theorem dX2_learnPrices_58 : decode cX2_learnPrices 58 = .ok (.istore 4, 2) := by decide +kernel
theorem dX2_learnPrices_60 : decode cX2_learnPrices 60 = .ok (.aload_n 0, 1) := by decide +kernel
theorem dX2_learnPrices_61 : decode cX2_learnPrices 61 = .ok (.getfield 15, 3) := by decide +kernel
theorem dX2_learnPrices_64 : decode cX2_learnPrices 64 = .ok (.iload_n 3, 1) := by decide +kernel
theorem dX2_learnPrices_65 : decode cX2_learnPrices 65 = .ok (.iload 4, 2) := by decide +kernel
theorem dX2_learnPrices_67 : decode cX2_learnPrices 67 = .ok (.ifCond .eq 20, 3) := by decide +kernel
theorem dX2_learnPrices_70 : decode cX2_learnPrices 70 = .ok (.aload_n 1, 1) := by decide +kernel
theorem dX2_learnPrices_71 : decode cX2_learnPrices 71 = .ok (.getstatic 29, 3) := by decide +kernel
theorem dX2_learnPrices_74 : decode cX2_learnPrices 74 = .ok (.iload_n 3, 1) := by decide +kernel
theorem dX2_learnPrices_75 : decode cX2_learnPrices 75 = .ok (.iaload, 1) := by decide +kernel
theorem dX2_learnPrices_76 : decode cX2_learnPrices 76 = .ok (.getstatic 32, 3) := by decide +kernel
theorem dX2_learnPrices_79 : decode cX2_learnPrices 79 = .ok (.iload_n 3, 1) := by decide +kernel
theorem dX2_learnPrices_80 : decode cX2_learnPrices 80 = .ok (.iaload, 1) := by decide +kernel
theorem dX2_learnPrices_81 : decode cX2_learnPrices 81 = .ok (.invokevirtual 56, 3) := by decide +kernel
theorem dX2_learnPrices_84 : decode cX2_learnPrices 84 = .ok (.goto 4, 3) := by decide +kernel
theorem dX2_learnPrices_87 : decode cX2_learnPrices 87 = .ok (.iconst (-1), 1) := by decide +kernel
theorem dX2_learnPrices_88 : decode cX2_learnPrices 88 = .ok (.iastore, 1) := by decide +kernel
theorem dX2_learnPrices_89 : decode cX2_learnPrices 89 = .ok (.iinc 3 1, 3) := by decide +kernel
theorem dX2_learnPrices_92 : decode cX2_learnPrices 92 = .ok (.goto (-53), 3) := by decide +kernel
theorem dX2_learnPrices_95 : decode cX2_learnPrices 95 = .ok (.return_, 1) := by decide +kernel
theorem dX2_sentWith_0 : decode cX2_sentWith 0 = .ok (.iconst 0, 1) := by decide +kernel
theorem dX2_sentWith_1 : decode cX2_sentWith 1 = .ok (.istore_n 2, 1) := by decide +kernel
theorem dX2_sentWith_2 : decode cX2_sentWith 2 = .ok (.iload_n 2, 1) := by decide +kernel
theorem dX2_sentWith_3 : decode cX2_sentWith 3 = .ok (.iconst 5, 1) := by decide +kernel
theorem dX2_sentWith_4 : decode cX2_sentWith 4 = .ok (.if_icmp .ge 31, 3) := by decide +kernel
theorem dX2_sentWith_7 : decode cX2_sentWith 7 = .ok (.aload_n 0, 1) := by decide +kernel
theorem dX2_sentWith_8 : decode cX2_sentWith 8 = .ok (.getfield 18, 3) := by decide +kernel
theorem dX2_sentWith_11 : decode cX2_sentWith 11 = .ok (.iload_n 2, 1) := by decide +kernel
theorem dX2_sentWith_12 : decode cX2_sentWith 12 = .ok (.iload_n 2, 1) := by decide +kernel
theorem dX2_sentWith_13 : decode cX2_sentWith 13 = .ok (.aload_n 0, 1) := by decide +kernel
theorem dX2_sentWith_14 : decode cX2_sentWith 14 = .ok (.getfield 41, 3) := by decide +kernel
theorem dX2_sentWith_17 : decode cX2_sentWith 17 = .ok (.if_icmp .ne 7, 3) := by decide +kernel
theorem dX2_sentWith_20 : decode cX2_sentWith 20 = .ok (.iconst 0, 1) := by decide +kernel
theorem dX2_sentWith_21 : decode cX2_sentWith 21 = .ok (.goto 7, 3) := by decide +kernel
theorem dX2_sentWith_24 : decode cX2_sentWith 24 = .ok (.aload_n 0, 1) := by decide +kernel
theorem dX2_sentWith_25 : decode cX2_sentWith 25 = .ok (.getfield 53, 3) := by decide +kernel
theorem dX2_sentWith_28 : decode cX2_sentWith 28 = .ok (.iastore, 1) := by decide +kernel
theorem dX2_sentWith_29 : decode cX2_sentWith 29 = .ok (.iinc 2 1, 3) := by decide +kernel
theorem dX2_sentWith_32 : decode cX2_sentWith 32 = .ok (.goto (-30), 3) := by decide +kernel
theorem dX2_sentWith_35 : decode cX2_sentWith 35 = .ok (.bipush 9, 2) := by decide +kernel
theorem dX2_sentWith_37 : decode cX2_sentWith 37 = .ok (.istore_n 2, 1) := by decide +kernel
theorem dX2_sentWith_38 : decode cX2_sentWith 38 = .ok (.iload_n 2, 1) := by decide +kernel
theorem dX2_sentWith_39 : decode cX2_sentWith 39 = .ok (.ifCond .lt 65, 3) := by decide +kernel
theorem dX2_sentWith_42 : decode cX2_sentWith 42 = .ok (.iload_n 1, 1) := by decide +kernel
theorem dX2_sentWith_43 : decode cX2_sentWith 43 = .ok (.iconst 1, 1) := by decide +kernel
theorem dX2_sentWith_44 : decode cX2_sentWith 44 = .ok (.iload_n 2, 1) := by decide +kernel
theorem dX2_sentWith_45 : decode cX2_sentWith 45 = .ok (.ishl, 1) := by decide +kernel
theorem dX2_sentWith_46 : decode cX2_sentWith 46 = .ok (.iand, 1) := by decide +kernel
theorem dX2_sentWith_47 : decode cX2_sentWith 47 = .ok (.ifCond .eq 51, 3) := by decide +kernel
theorem dX2_sentWith_50 : decode cX2_sentWith 50 = .ok (.aload_n 0, 1) := by decide +kernel
theorem dX2_sentWith_51 : decode cX2_sentWith 51 = .ok (.getfield 15, 3) := by decide +kernel
theorem dX2_sentWith_54 : decode cX2_sentWith 54 = .ok (.iload_n 2, 1) := by decide +kernel
theorem dX2_sentWith_55 : decode cX2_sentWith 55 = .ok (.iaload, 1) := by decide +kernel
theorem dX2_sentWith_56 : decode cX2_sentWith 56 = .ok (.iconst (-1), 1) := by decide +kernel
theorem dX2_sentWith_57 : decode cX2_sentWith 57 = .ok (.if_icmp .eq 41, 3) := by decide +kernel
theorem dX2_sentWith_60 : decode cX2_sentWith 60 = .ok (.getstatic 29, 3) := by decide +kernel
theorem dX2_sentWith_63 : decode cX2_sentWith 63 = .ok (.iload_n 2, 1) := by decide +kernel
theorem dX2_sentWith_64 : decode cX2_sentWith 64 = .ok (.iaload, 1) := by decide +kernel
theorem dX2_sentWith_65 : decode cX2_sentWith 65 = .ok (.istore_n 3, 1) := by decide +kernel
theorem dX2_sentWith_66 : decode cX2_sentWith 66 = .ok (.aload_n 0, 1) := by decide +kernel
theorem dX2_sentWith_67 : decode cX2_sentWith 67 = .ok (.getfield 18, 3) := by decide +kernel
theorem dX2_sentWith_70 : decode cX2_sentWith 70 = .ok (.iload_n 3, 1) := by decide +kernel
theorem dX2_sentWith_71 : decode cX2_sentWith 71 = .ok (.aload_n 0, 1) := by decide +kernel
theorem dX2_sentWith_72 : decode cX2_sentWith 72 = .ok (.getfield 18, 3) := by decide +kernel
theorem dX2_sentWith_75 : decode cX2_sentWith 75 = .ok (.iload_n 3, 1) := by decide +kernel
theorem dX2_sentWith_76 : decode cX2_sentWith 76 = .ok (.iaload, 1) := by decide +kernel
theorem dX2_sentWith_77 : decode cX2_sentWith 77 = .ok (.aload_n 0, 1) := by decide +kernel
theorem dX2_sentWith_78 : decode cX2_sentWith 78 = .ok (.getfield 15, 3) := by decide +kernel
theorem dX2_sentWith_81 : decode cX2_sentWith 81 = .ok (.iload_n 2, 1) := by decide +kernel
theorem dX2_sentWith_82 : decode cX2_sentWith 82 = .ok (.iaload, 1) := by decide +kernel
theorem dX2_sentWith_83 : decode cX2_sentWith 83 = .ok (.aload_n 0, 1) := by decide +kernel
theorem dX2_sentWith_84 : decode cX2_sentWith 84 = .ok (.getfield 18, 3) := by decide +kernel
theorem dX2_sentWith_87 : decode cX2_sentWith 87 = .ok (.getstatic 32, 3) := by decide +kernel
theorem dX2_sentWith_90 : decode cX2_sentWith 90 = .ok (.iload_n 2, 1) := by decide +kernel
theorem dX2_sentWith_91 : decode cX2_sentWith 91 = .ok (.iaload, 1) := by decide +kernel
theorem dX2_sentWith_92 : decode cX2_sentWith 92 = .ok (.iaload, 1) := by decide +kernel
theorem dX2_sentWith_93 : decode cX2_sentWith 93 = .ok (.iadd, 1) := by decide +kernel
theorem dX2_sentWith_94 : decode cX2_sentWith 94 = .ok (.invokestatic 59, 3) := by decide +kernel
theorem dX2_sentWith_97 : decode cX2_sentWith 97 = .ok (.iastore, 1) := by decide +kernel
theorem dX2_sentWith_98 : decode cX2_sentWith 98 = .ok (.iinc 2 (-1), 3) := by decide +kernel
theorem dX2_sentWith_101 : decode cX2_sentWith 101 = .ok (.goto (-63), 3) := by decide +kernel
theorem dX2_sentWith_104 : decode cX2_sentWith 104 = .ok (.iconst 0, 1) := by decide +kernel
theorem dX2_sentWith_105 : decode cX2_sentWith 105 = .ok (.istore_n 2, 1) := by decide +kernel
theorem dX2_sentWith_106 : decode cX2_sentWith 106 = .ok (.iconst 0, 1) := by decide +kernel
theorem dX2_sentWith_107 : decode cX2_sentWith 107 = .ok (.istore_n 3, 1) := by decide +kernel
theorem dX2_sentWith_108 : decode cX2_sentWith 108 = .ok (.iload_n 3, 1) := by decide +kernel
theorem dX2_sentWith_109 : decode cX2_sentWith 109 = .ok (.iconst 5, 1) := by decide +kernel
theorem dX2_sentWith_110 : decode cX2_sentWith 110 = .ok (.if_icmp .ge 25, 3) := by decide +kernel
theorem dX2_sentWith_113 : decode cX2_sentWith 113 = .ok (.iload_n 2, 1) := by decide +kernel
theorem dX2_sentWith_114 : decode cX2_sentWith 114 = .ok (.aload_n 0, 1) := by decide +kernel
theorem dX2_sentWith_115 : decode cX2_sentWith 115 = .ok (.getfield 9, 3) := by decide +kernel
theorem dX2_sentWith_118 : decode cX2_sentWith 118 = .ok (.iload_n 3, 1) := by decide +kernel
theorem dX2_sentWith_119 : decode cX2_sentWith 119 = .ok (.iaload, 1) := by decide +kernel
theorem dX2_sentWith_120 : decode cX2_sentWith 120 = .ok (.aload_n 0, 1) := by decide +kernel
theorem dX2_sentWith_121 : decode cX2_sentWith 121 = .ok (.getfield 18, 3) := by decide +kernel
theorem dX2_sentWith_124 : decode cX2_sentWith 124 = .ok (.iload_n 3, 1) := by decide +kernel
theorem dX2_sentWith_125 : decode cX2_sentWith 125 = .ok (.iaload, 1) := by decide +kernel
theorem dX2_sentWith_126 : decode cX2_sentWith 126 = .ok (.imul, 1) := by decide +kernel
theorem dX2_sentWith_127 : decode cX2_sentWith 127 = .ok (.iadd, 1) := by decide +kernel
theorem dX2_sentWith_128 : decode cX2_sentWith 128 = .ok (.istore_n 2, 1) := by decide +kernel
theorem dX2_sentWith_129 : decode cX2_sentWith 129 = .ok (.iinc 3 1, 3) := by decide +kernel
theorem dX2_sentWith_132 : decode cX2_sentWith 132 = .ok (.goto (-24), 3) := by decide +kernel
theorem dX2_sentWith_135 : decode cX2_sentWith 135 = .ok (.iload_n 2, 1) := by decide +kernel
theorem dX2_sentWith_136 : decode cX2_sentWith 136 = .ok (.ireturn, 1) := by decide +kernel
theorem dX2_choose_0 : decode cX2_choose 0 = .ok (.aload_n 0, 1) := by decide +kernel
theorem dX2_choose_1 : decode cX2_choose 1 = .ok (.aload_n 0, 1) := by decide +kernel
theorem dX2_choose_2 : decode cX2_choose 2 = .ok (.iconst 0, 1) := by decide +kernel
theorem dX2_choose_3 : decode cX2_choose 3 = .ok (.invokevirtual 64, 3) := by decide +kernel
theorem dX2_choose_6 : decode cX2_choose 6 = .ok (.putfield 68, 3) := by decide +kernel
theorem dX2_choose_9 : decode cX2_choose 9 = .ok (.aload_n 0, 1) := by decide +kernel
theorem dX2_choose_10 : decode cX2_choose 10 = .ok (.iconst 0, 1) := by decide +kernel
theorem dX2_choose_11 : decode cX2_choose 11 = .ok (.putfield 71, 3) := by decide +kernel
theorem dX2_choose_14 : decode cX2_choose 14 = .ok (.iconst 1, 1) := by decide +kernel
theorem dX2_choose_15 : decode cX2_choose 15 = .ok (.istore_n 2, 1) := by decide +kernel
theorem dX2_choose_16 : decode cX2_choose 16 = .ok (.iload_n 2, 1) := by decide +kernel
theorem dX2_choose_17 : decode cX2_choose 17 = .ok (.iload_n 1, 1) := by decide +kernel
theorem dX2_choose_18 : decode cX2_choose 18 = .ok (.if_icmp .gt 14, 3) := by decide +kernel
theorem dX2_choose_21 : decode cX2_choose 21 = .ok (.aload_n 0, 1) := by decide +kernel
theorem dX2_choose_22 : decode cX2_choose 22 = .ok (.iload_n 2, 1) := by decide +kernel
theorem dX2_choose_23 : decode cX2_choose 23 = .ok (.invokevirtual 74, 3) := by decide +kernel
theorem dX2_choose_26 : decode cX2_choose 26 = .ok (.iinc 2 1, 3) := by decide +kernel
theorem dX2_choose_29 : decode cX2_choose 29 = .ok (.goto (-13), 3) := by decide +kernel
theorem dX2_choose_32 : decode cX2_choose 32 = .ok (.return_, 1) := by decide +kernel
theorem dX2_chooseOfSize_0 : decode cX2_chooseOfSize 0 = .ok (.iconst 0, 1) := by decide +kernel
theorem dX2_chooseOfSize_1 : decode cX2_chooseOfSize 1 = .ok (.istore_n 2, 1) := by decide +kernel
theorem dX2_chooseOfSize_2 : decode cX2_chooseOfSize 2 = .ok (.iload_n 2, 1) := by decide +kernel
theorem dX2_chooseOfSize_3 : decode cX2_chooseOfSize 3 = .ok (.bipush 10, 2) := by decide +kernel
theorem dX2_chooseOfSize_5 : decode cX2_chooseOfSize 5 = .ok (.if_icmp .ge 96, 3) := by decide +kernel
theorem dX2_chooseOfSize_8 : decode cX2_chooseOfSize 8 = .ok (.iload_n 1, 1) := by decide +kernel
theorem dX2_chooseOfSize_9 : decode cX2_chooseOfSize 9 = .ok (.iconst 1, 1) := by decide +kernel
theorem dX2_chooseOfSize_10 : decode cX2_chooseOfSize 10 = .ok (.if_icmp .ne 10, 3) := by decide +kernel
theorem dX2_chooseOfSize_13 : decode cX2_chooseOfSize 13 = .ok (.aload_n 0, 1) := by decide +kernel
theorem dX2_chooseOfSize_14 : decode cX2_chooseOfSize 14 = .ok (.iconst 1, 1) := by decide +kernel
theorem dX2_chooseOfSize_15 : decode cX2_chooseOfSize 15 = .ok (.iload_n 2, 1) := by decide +kernel
theorem dX2_chooseOfSize_16 : decode cX2_chooseOfSize 16 = .ok (.ishl, 1) := by decide +kernel
theorem dX2_chooseOfSize_17 : decode cX2_chooseOfSize 17 = .ok (.invokevirtual 78, 3) := by decide +kernel
theorem dX2_chooseOfSize_20 : decode cX2_chooseOfSize 20 = .ok (.iload_n 2, 1) := by decide +kernel
theorem dX2_chooseOfSize_21 : decode cX2_chooseOfSize 21 = .ok (.iconst 1, 1) := by decide +kernel
theorem dX2_chooseOfSize_22 : decode cX2_chooseOfSize 22 = .ok (.iadd, 1) := by decide +kernel
theorem dX2_chooseOfSize_23 : decode cX2_chooseOfSize 23 = .ok (.istore_n 3, 1) := by decide +kernel
theorem dX2_chooseOfSize_24 : decode cX2_chooseOfSize 24 = .ok (.iload_n 3, 1) := by decide +kernel
theorem dX2_chooseOfSize_25 : decode cX2_chooseOfSize 25 = .ok (.bipush 10, 2) := by decide +kernel
theorem dX2_chooseOfSize_27 : decode cX2_chooseOfSize 27 = .ok (.if_icmp .ge 68, 3) := by decide +kernel
theorem dX2_chooseOfSize_30 : decode cX2_chooseOfSize 30 = .ok (.iload_n 1, 1) := by decide +kernel
theorem dX2_chooseOfSize_31 : decode cX2_chooseOfSize 31 = .ok (.iconst 1, 1) := by decide +kernel
theorem dX2_chooseOfSize_32 : decode cX2_chooseOfSize 32 = .ok (.if_icmp .le 63, 3) := by decide +kernel
theorem dX2_chooseOfSize_35 : decode cX2_chooseOfSize 35 = .ok (.iconst 1, 1) := by decide +kernel
theorem dX2_chooseOfSize_36 : decode cX2_chooseOfSize 36 = .ok (.iload_n 2, 1) := by decide +kernel
theorem dX2_chooseOfSize_37 : decode cX2_chooseOfSize 37 = .ok (.ishl, 1) := by decide +kernel
theorem dX2_chooseOfSize_38 : decode cX2_chooseOfSize 38 = .ok (.iconst 1, 1) := by decide +kernel
theorem dX2_chooseOfSize_39 : decode cX2_chooseOfSize 39 = .ok (.iload_n 3, 1) := by decide +kernel
theorem dX2_chooseOfSize_40 : decode cX2_chooseOfSize 40 = .ok (.ishl, 1) := by decide +kernel
theorem dX2_chooseOfSize_41 : decode cX2_chooseOfSize 41 = .ok (.ior, 1) := by decide +kernel
theorem dX2_chooseOfSize_42 : decode cX2_chooseOfSize 42 = .ok (.istore 4, 2) := by decide +kernel
theorem dX2_chooseOfSize_44 : decode cX2_chooseOfSize 44 = .ok (.iload_n 1, 1) := by decide +kernel
theorem dX2_chooseOfSize_45 : decode cX2_chooseOfSize 45 = .ok (.iconst 2, 1) := by decide +kernel
theorem dX2_chooseOfSize_46 : decode cX2_chooseOfSize 46 = .ok (.if_icmp .ne 9, 3) := by decide +kernel
theorem dX2_chooseOfSize_49 : decode cX2_chooseOfSize 49 = .ok (.aload_n 0, 1) := by decide +kernel
theorem dX2_chooseOfSize_50 : decode cX2_chooseOfSize 50 = .ok (.iload 4, 2) := by decide +kernel
theorem dX2_chooseOfSize_52 : decode cX2_chooseOfSize 52 = .ok (.invokevirtual 78, 3) := by decide +kernel
theorem dX2_chooseOfSize_55 : decode cX2_chooseOfSize 55 = .ok (.iload_n 3, 1) := by decide +kernel
theorem dX2_chooseOfSize_56 : decode cX2_chooseOfSize 56 = .ok (.iconst 1, 1) := by decide +kernel
theorem dX2_chooseOfSize_57 : decode cX2_chooseOfSize 57 = .ok (.iadd, 1) := by decide +kernel
theorem dX2_chooseOfSize_58 : decode cX2_chooseOfSize 58 = .ok (.istore 5, 2) := by decide +kernel
theorem dX2_chooseOfSize_60 : decode cX2_chooseOfSize 60 = .ok (.iload 5, 2) := by decide +kernel
theorem dX2_chooseOfSize_62 : decode cX2_chooseOfSize 62 = .ok (.bipush 10, 2) := by decide +kernel
theorem dX2_chooseOfSize_64 : decode cX2_chooseOfSize 64 = .ok (.if_icmp .ge 25, 3) := by decide +kernel
theorem dX2_chooseOfSize_67 : decode cX2_chooseOfSize 67 = .ok (.iload_n 1, 1) := by decide +kernel
theorem dX2_chooseOfSize_68 : decode cX2_chooseOfSize 68 = .ok (.iconst 2, 1) := by decide +kernel
theorem dX2_chooseOfSize_69 : decode cX2_chooseOfSize 69 = .ok (.if_icmp .le 20, 3) := by decide +kernel
theorem dX2_chooseOfSize_72 : decode cX2_chooseOfSize 72 = .ok (.aload_n 0, 1) := by decide +kernel
theorem dX2_chooseOfSize_73 : decode cX2_chooseOfSize 73 = .ok (.iload 4, 2) := by decide +kernel
theorem dX2_chooseOfSize_75 : decode cX2_chooseOfSize 75 = .ok (.iconst 1, 1) := by decide +kernel
theorem dX2_chooseOfSize_76 : decode cX2_chooseOfSize 76 = .ok (.iload 5, 2) := by decide +kernel
theorem dX2_chooseOfSize_78 : decode cX2_chooseOfSize 78 = .ok (.ishl, 1) := by decide +kernel
theorem dX2_chooseOfSize_79 : decode cX2_chooseOfSize 79 = .ok (.ior, 1) := by decide +kernel
theorem dX2_chooseOfSize_80 : decode cX2_chooseOfSize 80 = .ok (.invokevirtual 78, 3) := by decide +kernel
theorem dX2_chooseOfSize_83 : decode cX2_chooseOfSize 83 = .ok (.iinc 5 1, 3) := by decide +kernel
theorem dX2_chooseOfSize_86 : decode cX2_chooseOfSize 86 = .ok (.goto (-26), 3) := by decide +kernel
theorem dX2_chooseOfSize_89 : decode cX2_chooseOfSize 89 = .ok (.iinc 3 1, 3) := by decide +kernel
theorem dX2_chooseOfSize_92 : decode cX2_chooseOfSize 92 = .ok (.goto (-68), 3) := by decide +kernel
theorem dX2_chooseOfSize_95 : decode cX2_chooseOfSize 95 = .ok (.iinc 2 1, 3) := by decide +kernel
theorem dX2_chooseOfSize_98 : decode cX2_chooseOfSize 98 = .ok (.goto (-96), 3) := by decide +kernel
theorem dX2_chooseOfSize_101 : decode cX2_chooseOfSize 101 = .ok (.return_, 1) := by decide +kernel
theorem dX2_consider_0 : decode cX2_consider 0 = .ok (.aload_n 0, 1) := by decide +kernel
theorem dX2_consider_1 : decode cX2_consider 1 = .ok (.iload_n 1, 1) := by decide +kernel
theorem dX2_consider_2 : decode cX2_consider 2 = .ok (.invokevirtual 64, 3) := by decide +kernel
theorem dX2_consider_5 : decode cX2_consider 5 = .ok (.istore_n 2, 1) := by decide +kernel
theorem dX2_consider_6 : decode cX2_consider 6 = .ok (.iload_n 2, 1) := by decide +kernel
theorem dX2_consider_7 : decode cX2_consider 7 = .ok (.aload_n 0, 1) := by decide +kernel
theorem dX2_consider_8 : decode cX2_consider 8 = .ok (.getfield 68, 3) := by decide +kernel
theorem dX2_consider_11 : decode cX2_consider 11 = .ok (.if_icmp .ge 13, 3) := by decide +kernel
theorem dX2_consider_14 : decode cX2_consider 14 = .ok (.aload_n 0, 1) := by decide +kernel
theorem dX2_consider_15 : decode cX2_consider 15 = .ok (.iload_n 2, 1) := by decide +kernel
theorem dX2_consider_16 : decode cX2_consider 16 = .ok (.putfield 68, 3) := by decide +kernel
theorem dX2_consider_19 : decode cX2_consider 19 = .ok (.aload_n 0, 1) := by decide +kernel
theorem dX2_consider_20 : decode cX2_consider 20 = .ok (.iload_n 1, 1) := by decide +kernel
theorem dX2_consider_21 : decode cX2_consider 21 = .ok (.putfield 71, 3) := by decide +kernel
theorem dX2_consider_24 : decode cX2_consider 24 = .ok (.return_, 1) := by decide +kernel
theorem dX3_init_0 : decode cX3_init 0 = .ok (.aload_n 0, 1) := by decide +kernel
theorem dX3_init_1 : decode cX3_init 1 = .ok (.invokespecial 3, 3) := by decide +kernel
theorem dX3_init_4 : decode cX3_init 4 = .ok (.aload_n 0, 1) := by decide +kernel
theorem dX3_init_5 : decode cX3_init 5 = .ok (.bipush 120, 2) := by decide +kernel
theorem dX3_init_7 : decode cX3_init 7 = .ok (.newarray .int, 2) := by decide +kernel
theorem dX3_init_9 : decode cX3_init 9 = .ok (.putfield 9, 3) := by decide +kernel
theorem dX3_init_12 : decode cX3_init 12 = .ok (.aload_n 0, 1) := by decide +kernel
theorem dX3_init_13 : decode cX3_init 13 = .ok (.bipush 120, 2) := by decide +kernel
theorem dX3_init_15 : decode cX3_init 15 = .ok (.newarray .int, 2) := by decide +kernel
theorem dX3_init_17 : decode cX3_init 17 = .ok (.putfield 15, 3) := by decide +kernel
theorem dX3_init_20 : decode cX3_init 20 = .ok (.aload_n 0, 1) := by decide +kernel
theorem dX3_init_21 : decode cX3_init 21 = .ok (.bipush 120, 2) := by decide +kernel
theorem dX3_init_23 : decode cX3_init 23 = .ok (.newarray .int, 2) := by decide +kernel
theorem dX3_init_25 : decode cX3_init 25 = .ok (.putfield 18, 3) := by decide +kernel
theorem dX3_init_28 : decode cX3_init 28 = .ok (.aload_n 0, 1) := by decide +kernel
theorem dX3_init_29 : decode cX3_init 29 = .ok (.bipush 120, 2) := by decide +kernel
theorem dX3_init_31 : decode cX3_init 31 = .ok (.newarray .int, 2) := by decide +kernel
theorem dX3_init_33 : decode cX3_init 33 = .ok (.putfield 21, 3) := by decide +kernel
theorem dX3_init_36 : decode cX3_init 36 = .ok (.return_, 1) := by decide +kernel
theorem dX3_clear_0 : decode cX3_clear 0 = .ok (.aload_n 0, 1) := by decide +kernel
theorem dX3_clear_1 : decode cX3_clear 1 = .ok (.iconst 0, 1) := by decide +kernel
theorem dX3_clear_2 : decode cX3_clear 2 = .ok (.putfield 24, 3) := by decide +kernel
theorem dX3_clear_5 : decode cX3_clear 5 = .ok (.aload_n 0, 1) := by decide +kernel
theorem dX3_clear_6 : decode cX3_clear 6 = .ok (.iconst 3, 1) := by decide +kernel
theorem dX3_clear_7 : decode cX3_clear 7 = .ok (.putfield 28, 3) := by decide +kernel
theorem dX3_clear_10 : decode cX3_clear 10 = .ok (.return_, 1) := by decide +kernel
theorem dX3_append_0 : decode cX3_append 0 = .ok (.aload_n 0, 1) := by decide +kernel
theorem dX3_append_1 : decode cX3_append 1 = .ok (.getfield 24, 3) := by decide +kernel
theorem dX3_append_4 : decode cX3_append 4 = .ok (.bipush 120, 2) := by decide +kernel
theorem dX3_append_6 : decode cX3_append 6 = .ok (.if_icmp .lt 4, 3) := by decide +kernel
theorem dX3_append_9 : decode cX3_append 9 = .ok (.return_, 1) := by decide +kernel
theorem dX3_append_10 : decode cX3_append 10 = .ok (.aload_n 0, 1) := by decide +kernel
theorem dX3_append_11 : decode cX3_append 11 = .ok (.getfield 9, 3) := by decide +kernel
theorem dX3_append_14 : decode cX3_append 14 = .ok (.aload_n 0, 1) := by decide +kernel
theorem dX3_append_15 : decode cX3_append 15 = .ok (.getfield 24, 3) := by decide +kernel
theorem dX3_append_18 : decode cX3_append 18 = .ok (.iload_n 1, 1) := by decide +kernel
theorem dX3_append_19 : decode cX3_append 19 = .ok (.iastore, 1) := by decide +kernel
theorem dX3_append_20 : decode cX3_append 20 = .ok (.aload_n 0, 1) := by decide +kernel
theorem dX3_append_21 : decode cX3_append 21 = .ok (.getfield 15, 3) := by decide +kernel
theorem dX3_append_24 : decode cX3_append 24 = .ok (.aload_n 0, 1) := by decide +kernel
theorem dX3_append_25 : decode cX3_append 25 = .ok (.getfield 24, 3) := by decide +kernel
theorem dX3_append_28 : decode cX3_append 28 = .ok (.iload_n 2, 1) := by decide +kernel
theorem dX3_append_29 : decode cX3_append 29 = .ok (.iastore, 1) := by decide +kernel
theorem dX3_append_30 : decode cX3_append 30 = .ok (.aload_n 0, 1) := by decide +kernel
theorem dX3_append_31 : decode cX3_append 31 = .ok (.getfield 18, 3) := by decide +kernel
theorem dX3_append_34 : decode cX3_append 34 = .ok (.aload_n 0, 1) := by decide +kernel
theorem dX3_append_35 : decode cX3_append 35 = .ok (.getfield 24, 3) := by decide +kernel
theorem dX3_append_38 : decode cX3_append 38 = .ok (.iload_n 3, 1) := by decide +kernel
theorem dX3_append_39 : decode cX3_append 39 = .ok (.iastore, 1) := by decide +kernel
theorem dX3_append_40 : decode cX3_append 40 = .ok (.aload_n 0, 1) := by decide +kernel
theorem dX3_append_41 : decode cX3_append 41 = .ok (.getfield 21, 3) := by decide +kernel
theorem dX3_append_44 : decode cX3_append 44 = .ok (.aload_n 0, 1) := by decide +kernel
theorem dX3_append_45 : decode cX3_append 45 = .ok (.getfield 24, 3) := by decide +kernel
theorem dX3_append_48 : decode cX3_append 48 = .ok (.iload 4, 2) := by decide +kernel
theorem dX3_append_50 : decode cX3_append 50 = .ok (.iastore, 1) := by decide +kernel
theorem dX3_append_51 : decode cX3_append 51 = .ok (.aload_n 0, 1) := by decide +kernel
theorem dX3_append_52 : decode cX3_append 52 = .ok (.dup, 1) := by decide +kernel
theorem dX3_append_53 : decode cX3_append 53 = .ok (.getfield 24, 3) := by decide +kernel
theorem dX3_append_56 : decode cX3_append 56 = .ok (.iconst 1, 1) := by decide +kernel
theorem dX3_append_57 : decode cX3_append 57 = .ok (.iadd, 1) := by decide +kernel
theorem dX3_append_58 : decode cX3_append 58 = .ok (.putfield 24, 3) := by decide +kernel
theorem dX3_append_61 : decode cX3_append 61 = .ok (.aload_n 0, 1) := by decide +kernel
theorem dX3_append_62 : decode cX3_append 62 = .ok (.dup, 1) := by decide +kernel
theorem dX3_append_63 : decode cX3_append 63 = .ok (.getfield 28, 3) := by decide +kernel
theorem dX3_append_66 : decode cX3_append 66 = .ok (.iload_n 1, 1) := by decide +kernel
theorem dX3_append_67 : decode cX3_append 67 = .ok (.iload_n 2, 1) := by decide +kernel
theorem dX3_append_68 : decode cX3_append 68 = .ok (.invokestatic 31, 3) := by decide +kernel
theorem dX3_append_71 : decode cX3_append 71 = .ok (.iadd, 1) := by decide +kernel
theorem dX3_append_72 : decode cX3_append 72 = .ok (.putfield 28, 3) := by decide +kernel
theorem dX3_append_75 : decode cX3_append 75 = .ok (.return_, 1) := by decide +kernel
theorem dX3_tell_0 : decode cX3_tell 0 = .ok (.iload_n 1, 1) := by decide +kernel
theorem dX3_tell_1 : decode cX3_tell 1 = .ok (.iconst (-1), 1) := by decide +kernel
theorem dX3_tell_2 : decode cX3_tell 2 = .ok (.if_icmp .ne 8, 3) := by decide +kernel
theorem dX3_tell_5 : decode cX3_tell 5 = .ok (.aload_n 0, 1) := by decide +kernel
theorem dX3_tell_6 : decode cX3_tell 6 = .ok (.getfield 24, 3) := by decide +kernel
theorem dX3_tell_9 : decode cX3_tell 9 = .ok (.ireturn, 1) := by decide +kernel
theorem dX3_tell_10 : decode cX3_tell 10 = .ok (.iload_n 1, 1) := by decide +kernel
theorem dX3_tell_11 : decode cX3_tell 11 = .ok (.ifCond .lt 11, 3) := by decide +kernel
theorem dX3_tell_14 : decode cX3_tell 14 = .ok (.iload_n 1, 1) := by decide +kernel
theorem dX3_tell_15 : decode cX3_tell 15 = .ok (.aload_n 0, 1) := by decide +kernel
theorem dX3_tell_16 : decode cX3_tell 16 = .ok (.getfield 24, 3) := by decide +kernel
theorem dX3_tell_19 : decode cX3_tell 19 = .ok (.if_icmp .lt 5, 3) := by decide +kernel
theorem dX3_tell_22 : decode cX3_tell 22 = .ok (.iconst (-1), 1) := by decide +kernel
theorem dX3_tell_23 : decode cX3_tell 23 = .ok (.ireturn, 1) := by decide +kernel
theorem dX3_tell_24 : decode cX3_tell 24 = .ok (.iload_n 2, 1) := by decide +kernel
theorem dX3_tell_25 : decode cX3_tell 25 = .ok (.tableswitch 59 0 3 #[31, 38, 45, 52], 31) := by decide +kernel
theorem dX3_tell_56 : decode cX3_tell 56 = .ok (.aload_n 0, 1) := by decide +kernel
theorem dX3_tell_57 : decode cX3_tell 57 = .ok (.getfield 9, 3) := by decide +kernel
theorem dX3_tell_60 : decode cX3_tell 60 = .ok (.iload_n 1, 1) := by decide +kernel
theorem dX3_tell_61 : decode cX3_tell 61 = .ok (.iaload, 1) := by decide +kernel
theorem dX3_tell_62 : decode cX3_tell 62 = .ok (.ireturn, 1) := by decide +kernel
theorem dX3_tell_63 : decode cX3_tell 63 = .ok (.aload_n 0, 1) := by decide +kernel
theorem dX3_tell_64 : decode cX3_tell 64 = .ok (.getfield 15, 3) := by decide +kernel
theorem dX3_tell_67 : decode cX3_tell 67 = .ok (.iload_n 1, 1) := by decide +kernel
theorem dX3_tell_68 : decode cX3_tell 68 = .ok (.iaload, 1) := by decide +kernel
theorem dX3_tell_69 : decode cX3_tell 69 = .ok (.ireturn, 1) := by decide +kernel
theorem dX3_tell_70 : decode cX3_tell 70 = .ok (.aload_n 0, 1) := by decide +kernel
theorem dX3_tell_71 : decode cX3_tell 71 = .ok (.getfield 18, 3) := by decide +kernel
theorem dX3_tell_74 : decode cX3_tell 74 = .ok (.iload_n 1, 1) := by decide +kernel
theorem dX3_tell_75 : decode cX3_tell 75 = .ok (.iaload, 1) := by decide +kernel
theorem dX3_tell_76 : decode cX3_tell 76 = .ok (.ireturn, 1) := by decide +kernel
theorem dX3_tell_77 : decode cX3_tell 77 = .ok (.aload_n 0, 1) := by decide +kernel
theorem dX3_tell_78 : decode cX3_tell 78 = .ok (.getfield 21, 3) := by decide +kernel
theorem dX3_tell_81 : decode cX3_tell 81 = .ok (.iload_n 1, 1) := by decide +kernel
theorem dX3_tell_82 : decode cX3_tell 82 = .ok (.iaload, 1) := by decide +kernel
theorem dX3_tell_83 : decode cX3_tell 83 = .ok (.ireturn, 1) := by decide +kernel
theorem dX3_tell_84 : decode cX3_tell 84 = .ok (.iconst (-1), 1) := by decide +kernel
theorem dX3_tell_85 : decode cX3_tell 85 = .ok (.ireturn, 1) := by decide +kernel
theorem dX4_init_0 : decode cX4_init 0 = .ok (.aload_n 0, 1) := by decide +kernel
theorem dX4_init_1 : decode cX4_init 1 = .ok (.invokespecial 3, 3) := by decide +kernel
theorem dX4_init_4 : decode cX4_init 4 = .ok (.aload_n 0, 1) := by decide +kernel
theorem dX4_init_5 : decode cX4_init 5 = .ok (.bipush 120, 2) := by decide +kernel
theorem dX4_init_7 : decode cX4_init 7 = .ok (.newarray .int, 2) := by decide +kernel
theorem dX4_init_9 : decode cX4_init 9 = .ok (.putfield 9, 3) := by decide +kernel
theorem dX4_init_12 : decode cX4_init 12 = .ok (.aload_n 0, 1) := by decide +kernel
theorem dX4_init_13 : decode cX4_init 13 = .ok (.bipush 120, 2) := by decide +kernel
theorem dX4_init_15 : decode cX4_init 15 = .ok (.newarray .int, 2) := by decide +kernel
theorem dX4_init_17 : decode cX4_init 17 = .ok (.putfield 15, 3) := by decide +kernel
theorem dX4_init_20 : decode cX4_init 20 = .ok (.aload_n 0, 1) := by decide +kernel
theorem dX4_init_21 : decode cX4_init 21 = .ok (.bipush 121, 2) := by decide +kernel
theorem dX4_init_23 : decode cX4_init 23 = .ok (.newarray .int, 2) := by decide +kernel
theorem dX4_init_25 : decode cX4_init 25 = .ok (.putfield 18, 3) := by decide +kernel
theorem dX4_init_28 : decode cX4_init 28 = .ok (.aload_n 0, 1) := by decide +kernel
theorem dX4_init_29 : decode cX4_init 29 = .ok (.bipush 120, 2) := by decide +kernel
theorem dX4_init_31 : decode cX4_init 31 = .ok (.newarray .int, 2) := by decide +kernel
theorem dX4_init_33 : decode cX4_init 33 = .ok (.putfield 21, 3) := by decide +kernel
theorem dX4_init_36 : decode cX4_init 36 = .ok (.aload_n 0, 1) := by decide +kernel
theorem dX4_init_37 : decode cX4_init 37 = .ok (.bipush 120, 2) := by decide +kernel
theorem dX4_init_39 : decode cX4_init 39 = .ok (.newarray .int, 2) := by decide +kernel
theorem dX4_init_41 : decode cX4_init 41 = .ok (.putfield 24, 3) := by decide +kernel
theorem dX4_init_44 : decode cX4_init 44 = .ok (.aload_n 0, 1) := by decide +kernel
theorem dX4_init_45 : decode cX4_init 45 = .ok (.bipush 120, 2) := by decide +kernel
theorem dX4_init_47 : decode cX4_init 47 = .ok (.newarray .int, 2) := by decide +kernel
theorem dX4_init_49 : decode cX4_init 49 = .ok (.putfield 27, 3) := by decide +kernel
theorem dX4_init_52 : decode cX4_init 52 = .ok (.aload_n 0, 1) := by decide +kernel
theorem dX4_init_53 : decode cX4_init 53 = .ok (.bipush 120, 2) := by decide +kernel
theorem dX4_init_55 : decode cX4_init 55 = .ok (.newarray .int, 2) := by decide +kernel
theorem dX4_init_57 : decode cX4_init 57 = .ok (.putfield 30, 3) := by decide +kernel
theorem dX4_init_60 : decode cX4_init 60 = .ok (.return_, 1) := by decide +kernel
theorem dX4_plan_0 : decode cX4_plan 0 = .ok (.aload_n 0, 1) := by decide +kernel
theorem dX4_plan_1 : decode cX4_plan 1 = .ok (.getfield 18, 3) := by decide +kernel
theorem dX4_plan_4 : decode cX4_plan 4 = .ok (.aload_n 2, 1) := by decide +kernel
theorem dX4_plan_5 : decode cX4_plan 5 = .ok (.getfield 33, 3) := by decide +kernel
theorem dX4_plan_8 : decode cX4_plan 8 = .ok (.iconst 0, 1) := by decide +kernel
theorem dX4_plan_9 : decode cX4_plan 9 = .ok (.iastore, 1) := by decide +kernel
theorem dX4_plan_10 : decode cX4_plan 10 = .ok (.aload_n 2, 1) := by decide +kernel
theorem dX4_plan_11 : decode cX4_plan 11 = .ok (.getfield 33, 3) := by decide +kernel
theorem dX4_plan_14 : decode cX4_plan 14 = .ok (.iconst 1, 1) := by decide +kernel
theorem dX4_plan_15 : decode cX4_plan 15 = .ok (.isub, 1) := by decide +kernel
theorem dX4_plan_16 : decode cX4_plan 16 = .ok (.istore 4, 2) := by decide +kernel
theorem dX4_plan_18 : decode cX4_plan 18 = .ok (.iload 4, 2) := by decide +kernel
theorem dX4_plan_20 : decode cX4_plan 20 = .ok (.ifCond .lt 27, 3) := by decide +kernel
theorem dX4_plan_23 : decode cX4_plan 23 = .ok (.aload_n 0, 1) := by decide +kernel
theorem dX4_plan_24 : decode cX4_plan 24 = .ok (.aload_n 1, 1) := by decide +kernel
theorem dX4_plan_25 : decode cX4_plan 25 = .ok (.aload_n 2, 1) := by decide +kernel
theorem dX4_plan_26 : decode cX4_plan 26 = .ok (.iload 4, 2) := by decide +kernel
theorem dX4_plan_28 : decode cX4_plan 28 = .ok (.invokevirtual 39, 3) := by decide +kernel
theorem dX4_plan_31 : decode cX4_plan 31 = .ok (.aload_n 0, 1) := by decide +kernel
theorem dX4_plan_32 : decode cX4_plan 32 = .ok (.iload 4, 2) := by decide +kernel
theorem dX4_plan_34 : decode cX4_plan 34 = .ok (.aload_n 2, 1) := by decide +kernel
theorem dX4_plan_35 : decode cX4_plan 35 = .ok (.getfield 33, 3) := by decide +kernel
theorem dX4_plan_38 : decode cX4_plan 38 = .ok (.invokevirtual 43, 3) := by decide +kernel
theorem dX4_plan_41 : decode cX4_plan 41 = .ok (.iinc 4 (-1), 3) := by decide +kernel
theorem dX4_plan_44 : decode cX4_plan 44 = .ok (.goto (-26), 3) := by decide +kernel
theorem dX4_plan_47 : decode cX4_plan 47 = .ok (.aload_n 3, 1) := by decide +kernel
theorem dX4_plan_48 : decode cX4_plan 48 = .ok (.invokevirtual 47, 3) := by decide +kernel
theorem dX4_plan_51 : decode cX4_plan 51 = .ok (.iconst 0, 1) := by decide +kernel
theorem dX4_plan_52 : decode cX4_plan 52 = .ok (.istore 4, 2) := by decide +kernel
theorem dX4_plan_54 : decode cX4_plan 54 = .ok (.iconst 0, 1) := by decide +kernel
theorem dX4_plan_55 : decode cX4_plan 55 = .ok (.istore 5, 2) := by decide +kernel
theorem dX4_plan_57 : decode cX4_plan 57 = .ok (.iload 5, 2) := by decide +kernel
theorem dX4_plan_59 : decode cX4_plan 59 = .ok (.aload_n 2, 1) := by decide +kernel
theorem dX4_plan_60 : decode cX4_plan 60 = .ok (.getfield 33, 3) := by decide +kernel
theorem dX4_plan_63 : decode cX4_plan 63 = .ok (.if_icmp .ge 60, 3) := by decide +kernel
theorem dX4_plan_66 : decode cX4_plan 66 = .ok (.iload 5, 2) := by decide +kernel
theorem dX4_plan_68 : decode cX4_plan 68 = .ok (.iload 4, 2) := by decide +kernel
theorem dX4_plan_70 : decode cX4_plan 70 = .ok (.if_icmp .ne 47, 3) := by decide +kernel
theorem dX4_plan_73 : decode cX4_plan 73 = .ok (.aload_n 3, 1) := by decide +kernel
theorem dX4_plan_74 : decode cX4_plan 74 = .ok (.aload_n 0, 1) := by decide +kernel
theorem dX4_plan_75 : decode cX4_plan 75 = .ok (.getfield 21, 3) := by decide +kernel
theorem dX4_plan_78 : decode cX4_plan 78 = .ok (.iload 5, 2) := by decide +kernel
theorem dX4_plan_80 : decode cX4_plan 80 = .ok (.iaload, 1) := by decide +kernel
theorem dX4_plan_81 : decode cX4_plan 81 = .ok (.aload_n 0, 1) := by decide +kernel
theorem dX4_plan_82 : decode cX4_plan 82 = .ok (.getfield 24, 3) := by decide +kernel
theorem dX4_plan_85 : decode cX4_plan 85 = .ok (.iload 5, 2) := by decide +kernel
theorem dX4_plan_87 : decode cX4_plan 87 = .ok (.iaload, 1) := by decide +kernel
theorem dX4_plan_88 : decode cX4_plan 88 = .ok (.aload_n 0, 1) := by decide +kernel
theorem dX4_plan_89 : decode cX4_plan 89 = .ok (.getfield 27, 3) := by decide +kernel
theorem dX4_plan_92 : decode cX4_plan 92 = .ok (.iload 5, 2) := by decide +kernel
theorem dX4_plan_94 : decode cX4_plan 94 = .ok (.iaload, 1) := by decide +kernel
theorem dX4_plan_95 : decode cX4_plan 95 = .ok (.aload_n 0, 1) := by decide +kernel
theorem dX4_plan_96 : decode cX4_plan 96 = .ok (.getfield 30, 3) := by decide +kernel
theorem dX4_plan_99 : decode cX4_plan 99 = .ok (.iload 5, 2) := by decide +kernel
theorem dX4_plan_101 : decode cX4_plan 101 = .ok (.iaload, 1) := by decide +kernel
theorem dX4_plan_102 : decode cX4_plan 102 = .ok (.invokevirtual 52, 3) := by decide +kernel
theorem dX4_plan_105 : decode cX4_plan 105 = .ok (.iload 5, 2) := by decide +kernel
theorem dX4_plan_107 : decode cX4_plan 107 = .ok (.aload_n 0, 1) := by decide +kernel
theorem dX4_plan_108 : decode cX4_plan 108 = .ok (.getfield 24, 3) := by decide +kernel
theorem dX4_plan_111 : decode cX4_plan 111 = .ok (.iload 5, 2) := by decide +kernel
theorem dX4_plan_113 : decode cX4_plan 113 = .ok (.iaload, 1) := by decide +kernel
theorem dX4_plan_114 : decode cX4_plan 114 = .ok (.iadd, 1) := by decide +kernel
theorem dX4_plan_115 : decode cX4_plan 115 = .ok (.istore 4, 2) := by decide +kernel
theorem dX4_plan_117 : decode cX4_plan 117 = .ok (.iinc 5 1, 3) := by decide +kernel
theorem dX4_plan_120 : decode cX4_plan 120 = .ok (.goto (-63), 3) := by decide +kernel
theorem dX4_plan_123 : decode cX4_plan 123 = .ok (.return_, 1) := by decide +kernel
theorem dX4_findRuns_0 : decode cX4_findRuns 0 = .ok (.iload_n 3, 1) := by decide +kernel
theorem dX4_findRuns_1 : decode cX4_findRuns 1 = .ok (.iconst 1, 1) := by decide +kernel
theorem dX4_findRuns_2 : decode cX4_findRuns 2 = .ok (.iadd, 1) := by decide +kernel
theorem dX4_findRuns_3 : decode cX4_findRuns 3 = .ok (.aload_n 2, 1) := by decide +kernel
theorem dX4_findRuns_4 : decode cX4_findRuns 4 = .ok (.getfield 33, 3) := by decide +kernel
theorem dX4_findRuns_7 : decode cX4_findRuns 7 = .ok (.if_icmp .lt 7, 3) := by decide +kernel
theorem dX4_findRuns_10 : decode cX4_findRuns 10 = .ok (.iconst 1, 1) := by decide +kernel
theorem dX4_findRuns_11 : decode cX4_findRuns 11 = .ok (.goto 4, 3) := by decide +kernel
theorem dX4_findRuns_14 : decode cX4_findRuns 14 = .ok (.iconst 0, 1) := by decide +kernel
theorem dX4_findRuns_15 : decode cX4_findRuns 15 = .ok (.istore 4, 2) := by decide +kernel
theorem dX4_findRuns_17 : decode cX4_findRuns 17 = .ok (.aload_n 2, 1) := by decide +kernel
theorem dX4_findRuns_18 : decode cX4_findRuns 18 = .ok (.getfield 56, 3) := by decide +kernel
theorem dX4_findRuns_21 : decode cX4_findRuns 21 = .ok (.iload_n 3, 1) := by decide +kernel
theorem dX4_findRuns_22 : decode cX4_findRuns 22 = .ok (.iaload, 1) := by decide +kernel
theorem dX4_findRuns_23 : decode cX4_findRuns 23 = .ok (.istore 5, 2) := by decide +kernel
theorem dX4_findRuns_25 : decode cX4_findRuns 25 = .ok (.aload_n 0, 1) := by decide +kernel
theorem dX4_findRuns_26 : decode cX4_findRuns 26 = .ok (.iconst 0, 1) := by decide +kernel
theorem dX4_findRuns_27 : decode cX4_findRuns 27 = .ok (.putfield 59, 3) := by decide +kernel
theorem dX4_findRuns_30 : decode cX4_findRuns 30 = .ok (.aload_n 0, 1) := by decide +kernel
theorem dX4_findRuns_31 : decode cX4_findRuns 31 = .ok (.iconst 0, 1) := by decide +kernel
theorem dX4_findRuns_32 : decode cX4_findRuns 32 = .ok (.putfield 62, 3) := by decide +kernel
theorem dX4_findRuns_35 : decode cX4_findRuns 35 = .ok (.iconst 0, 1) := by decide +kernel
theorem dX4_findRuns_36 : decode cX4_findRuns 36 = .ok (.istore 6, 2) := by decide +kernel
theorem dX4_findRuns_38 : decode cX4_findRuns 38 = .ok (.iload 6, 2) := by decide +kernel
theorem dX4_findRuns_40 : decode cX4_findRuns 40 = .ok (.aload_n 1, 1) := by decide +kernel
theorem dX4_findRuns_41 : decode cX4_findRuns 41 = .ok (.getfield 33, 3) := by decide +kernel
theorem dX4_findRuns_44 : decode cX4_findRuns 44 = .ok (.if_icmp .ge 157, 3) := by decide +kernel
theorem dX4_findRuns_47 : decode cX4_findRuns 47 = .ok (.iload 5, 2) := by decide +kernel
theorem dX4_findRuns_49 : decode cX4_findRuns 49 = .ok (.aload_n 1, 1) := by decide +kernel
theorem dX4_findRuns_50 : decode cX4_findRuns 50 = .ok (.getfield 56, 3) := by decide +kernel
theorem dX4_findRuns_53 : decode cX4_findRuns 53 = .ok (.iload 6, 2) := by decide +kernel
theorem dX4_findRuns_55 : decode cX4_findRuns 55 = .ok (.iaload, 1) := by decide +kernel
theorem dX4_findRuns_56 : decode cX4_findRuns 56 = .ok (.isub, 1) := by decide +kernel
theorem dX4_findRuns_57 : decode cX4_findRuns 57 = .ok (.sipush 255, 3) := by decide +kernel
theorem dX4_findRuns_60 : decode cX4_findRuns 60 = .ok (.iand, 1) := by decide +kernel
theorem dX4_findRuns_61 : decode cX4_findRuns 61 = .ok (.istore 7, 2) := by decide +kernel
theorem dX4_findRuns_63 : decode cX4_findRuns 63 = .ok (.iload 4, 2) := by decide +kernel
theorem dX4_findRuns_65 : decode cX4_findRuns 65 = .ok (.ifCond .ne 32, 3) := by decide +kernel
theorem dX4_findRuns_68 : decode cX4_findRuns 68 = .ok (.iload 6, 2) := by decide +kernel
theorem dX4_findRuns_70 : decode cX4_findRuns 70 = .ok (.iconst 1, 1) := by decide +kernel
theorem dX4_findRuns_71 : decode cX4_findRuns 71 = .ok (.iadd, 1) := by decide +kernel
theorem dX4_findRuns_72 : decode cX4_findRuns 72 = .ok (.aload_n 1, 1) := by decide +kernel
theorem dX4_findRuns_73 : decode cX4_findRuns 73 = .ok (.getfield 33, 3) := by decide +kernel
theorem dX4_findRuns_76 : decode cX4_findRuns 76 = .ok (.if_icmp .ge 21, 3) := by decide +kernel
theorem dX4_findRuns_79 : decode cX4_findRuns 79 = .ok (.aload_n 0, 1) := by decide +kernel
theorem dX4_findRuns_80 : decode cX4_findRuns 80 = .ok (.getfield 15, 3) := by decide +kernel
theorem dX4_findRuns_83 : decode cX4_findRuns 83 = .ok (.iload 6, 2) := by decide +kernel
theorem dX4_findRuns_85 : decode cX4_findRuns 85 = .ok (.iconst 1, 1) := by decide +kernel
theorem dX4_findRuns_86 : decode cX4_findRuns 86 = .ok (.iadd, 1) := by decide +kernel
theorem dX4_findRuns_87 : decode cX4_findRuns 87 = .ok (.iaload, 1) := by decide +kernel
theorem dX4_findRuns_88 : decode cX4_findRuns 88 = .ok (.iload 7, 2) := by decide +kernel
theorem dX4_findRuns_90 : decode cX4_findRuns 90 = .ok (.if_icmp .ne 7, 3) := by decide +kernel
theorem dX4_findRuns_93 : decode cX4_findRuns 93 = .ok (.iconst 1, 1) := by decide +kernel
theorem dX4_findRuns_94 : decode cX4_findRuns 94 = .ok (.goto 4, 3) := by decide +kernel
theorem dX4_findRuns_97 : decode cX4_findRuns 97 = .ok (.iconst 0, 1) := by decide +kernel
theorem dX4_findRuns_98 : decode cX4_findRuns 98 = .ok (.istore 8, 2) := by decide +kernel
theorem dX4_findRuns_100 : decode cX4_findRuns 100 = .ok (.iload 8, 2) := by decide +kernel
theorem dX4_findRuns_102 : decode cX4_findRuns 102 = .ok (.ifCond .eq 17, 3) := by decide +kernel
theorem dX4_findRuns_105 : decode cX4_findRuns 105 = .ok (.aload_n 0, 1) := by decide +kernel
theorem dX4_findRuns_106 : decode cX4_findRuns 106 = .ok (.getfield 9, 3) := by decide +kernel
theorem dX4_findRuns_109 : decode cX4_findRuns 109 = .ok (.iload 6, 2) := by decide +kernel
theorem dX4_findRuns_111 : decode cX4_findRuns 111 = .ok (.iconst 1, 1) := by decide +kernel
theorem dX4_findRuns_112 : decode cX4_findRuns 112 = .ok (.iadd, 1) := by decide +kernel
theorem dX4_findRuns_113 : decode cX4_findRuns 113 = .ok (.iaload, 1) := by decide +kernel
theorem dX4_findRuns_114 : decode cX4_findRuns 114 = .ok (.iconst 1, 1) := by decide +kernel
theorem dX4_findRuns_115 : decode cX4_findRuns 115 = .ok (.iadd, 1) := by decide +kernel
theorem dX4_findRuns_116 : decode cX4_findRuns 116 = .ok (.goto 4, 3) := by decide +kernel
theorem dX4_findRuns_119 : decode cX4_findRuns 119 = .ok (.iconst 1, 1) := by decide +kernel
theorem dX4_findRuns_120 : decode cX4_findRuns 120 = .ok (.istore 9, 2) := by decide +kernel
theorem dX4_findRuns_122 : decode cX4_findRuns 122 = .ok (.aload_n 0, 1) := by decide +kernel
theorem dX4_findRuns_123 : decode cX4_findRuns 123 = .ok (.getfield 15, 3) := by decide +kernel
theorem dX4_findRuns_126 : decode cX4_findRuns 126 = .ok (.iload 6, 2) := by decide +kernel
theorem dX4_findRuns_128 : decode cX4_findRuns 128 = .ok (.iload 7, 2) := by decide +kernel
theorem dX4_findRuns_130 : decode cX4_findRuns 130 = .ok (.iastore, 1) := by decide +kernel
theorem dX4_findRuns_131 : decode cX4_findRuns 131 = .ok (.aload_n 0, 1) := by decide +kernel
theorem dX4_findRuns_132 : decode cX4_findRuns 132 = .ok (.getfield 9, 3) := by decide +kernel
theorem dX4_findRuns_135 : decode cX4_findRuns 135 = .ok (.iload 6, 2) := by decide +kernel
theorem dX4_findRuns_137 : decode cX4_findRuns 137 = .ok (.iload 9, 2) := by decide +kernel
theorem dX4_findRuns_139 : decode cX4_findRuns 139 = .ok (.iastore, 1) := by decide +kernel
theorem dX4_findRuns_140 : decode cX4_findRuns 140 = .ok (.iload 7, 2) := by decide +kernel
theorem dX4_findRuns_142 : decode cX4_findRuns 142 = .ok (.ifCond .ne 27, 3) := by decide +kernel
theorem dX4_findRuns_145 : decode cX4_findRuns 145 = .ok (.iload 9, 2) := by decide +kernel
theorem dX4_findRuns_147 : decode cX4_findRuns 147 = .ok (.aload_n 0, 1) := by decide +kernel
theorem dX4_findRuns_148 : decode cX4_findRuns 148 = .ok (.getfield 59, 3) := by decide +kernel
theorem dX4_findRuns_151 : decode cX4_findRuns 151 = .ok (.if_icmp .le 18, 3) := by decide +kernel
theorem dX4_findRuns_154 : decode cX4_findRuns 154 = .ok (.aload_n 0, 1) := by decide +kernel
theorem dX4_findRuns_155 : decode cX4_findRuns 155 = .ok (.iload 9, 2) := by decide +kernel
theorem dX4_findRuns_157 : decode cX4_findRuns 157 = .ok (.putfield 59, 3) := by decide +kernel
theorem dX4_findRuns_160 : decode cX4_findRuns 160 = .ok (.aload_n 0, 1) := by decide +kernel
theorem dX4_findRuns_161 : decode cX4_findRuns 161 = .ok (.iload 6, 2) := by decide +kernel
theorem dX4_findRuns_163 : decode cX4_findRuns 163 = .ok (.putfield 65, 3) := by decide +kernel
theorem dX4_findRuns_166 : decode cX4_findRuns 166 = .ok (.goto 29, 3) := by decide +kernel
theorem dX4_findRuns_169 : decode cX4_findRuns 169 = .ok (.iload 7, 2) := by decide +kernel
theorem dX4_findRuns_171 : decode cX4_findRuns 171 = .ok (.ifCond .eq 24, 3) := by decide +kernel
theorem dX4_findRuns_174 : decode cX4_findRuns 174 = .ok (.iload 9, 2) := by decide +kernel
theorem dX4_findRuns_176 : decode cX4_findRuns 176 = .ok (.aload_n 0, 1) := by decide +kernel
theorem dX4_findRuns_177 : decode cX4_findRuns 177 = .ok (.getfield 62, 3) := by decide +kernel
theorem dX4_findRuns_180 : decode cX4_findRuns 180 = .ok (.if_icmp .le 15, 3) := by decide +kernel
theorem dX4_findRuns_183 : decode cX4_findRuns 183 = .ok (.aload_n 0, 1) := by decide +kernel
theorem dX4_findRuns_184 : decode cX4_findRuns 184 = .ok (.iload 9, 2) := by decide +kernel
theorem dX4_findRuns_186 : decode cX4_findRuns 186 = .ok (.putfield 62, 3) := by decide +kernel
theorem dX4_findRuns_189 : decode cX4_findRuns 189 = .ok (.aload_n 0, 1) := by decide +kernel
theorem dX4_findRuns_190 : decode cX4_findRuns 190 = .ok (.iload 6, 2) := by decide +kernel
theorem dX4_findRuns_192 : decode cX4_findRuns 192 = .ok (.putfield 68, 3) := by decide +kernel
theorem dX4_findRuns_195 : decode cX4_findRuns 195 = .ok (.iinc 6 1, 3) := by decide +kernel
theorem dX4_findRuns_198 : decode cX4_findRuns 198 = .ok (.goto (-160), 3) := by decide +kernel
theorem dX4_findRuns_201 : decode cX4_findRuns 201 = .ok (.return_, 1) := by decide +kernel
theorem dX4_chooseStep_0 : decode cX4_chooseStep 0 = .ok (.aload_n 0, 1) := by decide +kernel
theorem dX4_chooseStep_1 : decode cX4_chooseStep 1 = .ok (.getfield 18, 3) := by decide +kernel
theorem dX4_chooseStep_4 : decode cX4_chooseStep 4 = .ok (.iload_n 1, 1) := by decide +kernel
theorem dX4_chooseStep_5 : decode cX4_chooseStep 5 = .ok (.ldc 71, 2) := by decide +kernel
theorem dX4_chooseStep_7 : decode cX4_chooseStep 7 = .ok (.iastore, 1) := by decide +kernel
theorem dX4_chooseStep_8 : decode cX4_chooseStep 8 = .ok (.bipush 30, 2) := by decide +kernel
theorem dX4_chooseStep_10 : decode cX4_chooseStep 10 = .ok (.iload_n 2, 1) := by decide +kernel
theorem dX4_chooseStep_11 : decode cX4_chooseStep 11 = .ok (.iload_n 1, 1) := by decide +kernel
theorem dX4_chooseStep_12 : decode cX4_chooseStep 12 = .ok (.isub, 1) := by decide +kernel
theorem dX4_chooseStep_13 : decode cX4_chooseStep 13 = .ok (.invokestatic 72, 3) := by decide +kernel
theorem dX4_chooseStep_16 : decode cX4_chooseStep 16 = .ok (.istore_n 3, 1) := by decide +kernel
theorem dX4_chooseStep_17 : decode cX4_chooseStep 17 = .ok (.iconst 1, 1) := by decide +kernel
theorem dX4_chooseStep_18 : decode cX4_chooseStep 18 = .ok (.istore 4, 2) := by decide +kernel
theorem dX4_chooseStep_20 : decode cX4_chooseStep 20 = .ok (.iload 4, 2) := by decide +kernel
theorem dX4_chooseStep_22 : decode cX4_chooseStep 22 = .ok (.iload_n 3, 1) := by decide +kernel
theorem dX4_chooseStep_23 : decode cX4_chooseStep 23 = .ok (.if_icmp .gt 19, 3) := by decide +kernel
theorem dX4_chooseStep_26 : decode cX4_chooseStep 26 = .ok (.aload_n 0, 1) := by decide +kernel
theorem dX4_chooseStep_27 : decode cX4_chooseStep 27 = .ok (.iload_n 1, 1) := by decide +kernel
theorem dX4_chooseStep_28 : decode cX4_chooseStep 28 = .ok (.iconst 2, 1) := by decide +kernel
theorem dX4_chooseStep_29 : decode cX4_chooseStep 29 = .ok (.iload 4, 2) := by decide +kernel
theorem dX4_chooseStep_31 : decode cX4_chooseStep 31 = .ok (.iload_n 1, 1) := by decide +kernel
theorem dX4_chooseStep_32 : decode cX4_chooseStep 32 = .ok (.iconst 0, 1) := by decide +kernel
theorem dX4_chooseStep_33 : decode cX4_chooseStep 33 = .ok (.invokevirtual 78, 3) := by decide +kernel
theorem dX4_chooseStep_36 : decode cX4_chooseStep 36 = .ok (.iinc 4 1, 3) := by decide +kernel
theorem dX4_chooseStep_39 : decode cX4_chooseStep 39 = .ok (.goto (-19), 3) := by decide +kernel
theorem dX4_chooseStep_42 : decode cX4_chooseStep 42 = .ok (.aload_n 0, 1) := by decide +kernel
theorem dX4_chooseStep_43 : decode cX4_chooseStep 43 = .ok (.getfield 62, 3) := by decide +kernel
theorem dX4_chooseStep_46 : decode cX4_chooseStep 46 = .ok (.ifCond .le 26, 3) := by decide +kernel
theorem dX4_chooseStep_49 : decode cX4_chooseStep 49 = .ok (.aload_n 0, 1) := by decide +kernel
theorem dX4_chooseStep_50 : decode cX4_chooseStep 50 = .ok (.iload_n 1, 1) := by decide +kernel
theorem dX4_chooseStep_51 : decode cX4_chooseStep 51 = .ok (.iconst 1, 1) := by decide +kernel
theorem dX4_chooseStep_52 : decode cX4_chooseStep 52 = .ok (.aload_n 0, 1) := by decide +kernel
theorem dX4_chooseStep_53 : decode cX4_chooseStep 53 = .ok (.getfield 62, 3) := by decide +kernel
theorem dX4_chooseStep_56 : decode cX4_chooseStep 56 = .ok (.aload_n 0, 1) := by decide +kernel
theorem dX4_chooseStep_57 : decode cX4_chooseStep 57 = .ok (.getfield 68, 3) := by decide +kernel
theorem dX4_chooseStep_60 : decode cX4_chooseStep 60 = .ok (.aload_n 0, 1) := by decide +kernel
theorem dX4_chooseStep_61 : decode cX4_chooseStep 61 = .ok (.getfield 15, 3) := by decide +kernel
theorem dX4_chooseStep_64 : decode cX4_chooseStep 64 = .ok (.aload_n 0, 1) := by decide +kernel
theorem dX4_chooseStep_65 : decode cX4_chooseStep 65 = .ok (.getfield 68, 3) := by decide +kernel
theorem dX4_chooseStep_68 : decode cX4_chooseStep 68 = .ok (.iaload, 1) := by decide +kernel
theorem dX4_chooseStep_69 : decode cX4_chooseStep 69 = .ok (.invokevirtual 78, 3) := by decide +kernel
theorem dX4_chooseStep_72 : decode cX4_chooseStep 72 = .ok (.aload_n 0, 1) := by decide +kernel
theorem dX4_chooseStep_73 : decode cX4_chooseStep 73 = .ok (.getfield 59, 3) := by decide +kernel
theorem dX4_chooseStep_76 : decode cX4_chooseStep 76 = .ok (.ifCond .le 18, 3) := by decide +kernel
theorem dX4_chooseStep_79 : decode cX4_chooseStep 79 = .ok (.aload_n 0, 1) := by decide +kernel
theorem dX4_chooseStep_80 : decode cX4_chooseStep 80 = .ok (.iload_n 1, 1) := by decide +kernel
theorem dX4_chooseStep_81 : decode cX4_chooseStep 81 = .ok (.iconst 0, 1) := by decide +kernel
theorem dX4_chooseStep_82 : decode cX4_chooseStep 82 = .ok (.aload_n 0, 1) := by decide +kernel
theorem dX4_chooseStep_83 : decode cX4_chooseStep 83 = .ok (.getfield 59, 3) := by decide +kernel
theorem dX4_chooseStep_86 : decode cX4_chooseStep 86 = .ok (.aload_n 0, 1) := by decide +kernel
theorem dX4_chooseStep_87 : decode cX4_chooseStep 87 = .ok (.getfield 65, 3) := by decide +kernel
theorem dX4_chooseStep_90 : decode cX4_chooseStep 90 = .ok (.iconst 0, 1) := by decide +kernel
theorem dX4_chooseStep_91 : decode cX4_chooseStep 91 = .ok (.invokevirtual 78, 3) := by decide +kernel
theorem dX4_chooseStep_94 : decode cX4_chooseStep 94 = .ok (.return_, 1) := by decide +kernel
theorem dX4_tryStep_0 : decode cX4_tryStep 0 = .ok (.iload_n 2, 1) := by decide +kernel
theorem dX4_tryStep_1 : decode cX4_tryStep 1 = .ok (.iload_n 3, 1) := by decide +kernel
theorem dX4_tryStep_2 : decode cX4_tryStep 2 = .ok (.invokestatic 82, 3) := by decide +kernel
theorem dX4_tryStep_5 : decode cX4_tryStep 5 = .ok (.aload_n 0, 1) := by decide +kernel
theorem dX4_tryStep_6 : decode cX4_tryStep 6 = .ok (.getfield 18, 3) := by decide +kernel
theorem dX4_tryStep_9 : decode cX4_tryStep 9 = .ok (.iload_n 1, 1) := by decide +kernel
theorem dX4_tryStep_10 : decode cX4_tryStep 10 = .ok (.iload_n 3, 1) := by decide +kernel
theorem dX4_tryStep_11 : decode cX4_tryStep 11 = .ok (.iadd, 1) := by decide +kernel
theorem dX4_tryStep_12 : decode cX4_tryStep 12 = .ok (.iaload, 1) := by decide +kernel
theorem dX4_tryStep_13 : decode cX4_tryStep 13 = .ok (.iadd, 1) := by decide +kernel
theorem dX4_tryStep_14 : decode cX4_tryStep 14 = .ok (.istore 6, 2) := by decide +kernel
theorem dX4_tryStep_16 : decode cX4_tryStep 16 = .ok (.iload 6, 2) := by decide +kernel
theorem dX4_tryStep_18 : decode cX4_tryStep 18 = .ok (.aload_n 0, 1) := by decide +kernel
theorem dX4_tryStep_19 : decode cX4_tryStep 19 = .ok (.getfield 18, 3) := by decide +kernel
theorem dX4_tryStep_22 : decode cX4_tryStep 22 = .ok (.iload_n 1, 1) := by decide +kernel
theorem dX4_tryStep_23 : decode cX4_tryStep 23 = .ok (.iaload, 1) := by decide +kernel
theorem dX4_tryStep_24 : decode cX4_tryStep 24 = .ok (.if_icmp .gt 41, 3) := by decide +kernel
theorem dX4_tryStep_27 : decode cX4_tryStep 27 = .ok (.aload_n 0, 1) := by decide +kernel
theorem dX4_tryStep_28 : decode cX4_tryStep 28 = .ok (.getfield 18, 3) := by decide +kernel
theorem dX4_tryStep_31 : decode cX4_tryStep 31 = .ok (.iload_n 1, 1) := by decide +kernel
theorem dX4_tryStep_32 : decode cX4_tryStep 32 = .ok (.iload 6, 2) := by decide +kernel
theorem dX4_tryStep_34 : decode cX4_tryStep 34 = .ok (.iastore, 1) := by decide +kernel
theorem dX4_tryStep_35 : decode cX4_tryStep 35 = .ok (.aload_n 0, 1) := by decide +kernel
theorem dX4_tryStep_36 : decode cX4_tryStep 36 = .ok (.getfield 21, 3) := by decide +kernel
theorem dX4_tryStep_39 : decode cX4_tryStep 39 = .ok (.iload_n 1, 1) := by decide +kernel
theorem dX4_tryStep_40 : decode cX4_tryStep 40 = .ok (.iload_n 2, 1) := by decide +kernel
theorem dX4_tryStep_41 : decode cX4_tryStep 41 = .ok (.iastore, 1) := by decide +kernel
theorem dX4_tryStep_42 : decode cX4_tryStep 42 = .ok (.aload_n 0, 1) := by decide +kernel
theorem dX4_tryStep_43 : decode cX4_tryStep 43 = .ok (.getfield 24, 3) := by decide +kernel
theorem dX4_tryStep_46 : decode cX4_tryStep 46 = .ok (.iload_n 1, 1) := by decide +kernel
theorem dX4_tryStep_47 : decode cX4_tryStep 47 = .ok (.iload_n 3, 1) := by decide +kernel
theorem dX4_tryStep_48 : decode cX4_tryStep 48 = .ok (.iastore, 1) := by decide +kernel
theorem dX4_tryStep_49 : decode cX4_tryStep 49 = .ok (.aload_n 0, 1) := by decide +kernel
theorem dX4_tryStep_50 : decode cX4_tryStep 50 = .ok (.getfield 27, 3) := by decide +kernel
theorem dX4_tryStep_53 : decode cX4_tryStep 53 = .ok (.iload_n 1, 1) := by decide +kernel
theorem dX4_tryStep_54 : decode cX4_tryStep 54 = .ok (.iload 4, 2) := by decide +kernel
theorem dX4_tryStep_56 : decode cX4_tryStep 56 = .ok (.iastore, 1) := by decide +kernel
theorem dX4_tryStep_57 : decode cX4_tryStep 57 = .ok (.aload_n 0, 1) := by decide +kernel
theorem dX4_tryStep_58 : decode cX4_tryStep 58 = .ok (.getfield 30, 3) := by decide +kernel
theorem dX4_tryStep_61 : decode cX4_tryStep 61 = .ok (.iload_n 1, 1) := by decide +kernel
theorem dX4_tryStep_62 : decode cX4_tryStep 62 = .ok (.iload 5, 2) := by decide +kernel
theorem dX4_tryStep_64 : decode cX4_tryStep 64 = .ok (.iastore, 1) := by decide +kernel
theorem dX4_tryStep_65 : decode cX4_tryStep 65 = .ok (.return_, 1) := by decide +kernel
theorem dX5_init_0 : decode cX5_init 0 = .ok (.aload_n 0, 1) := by decide +kernel
theorem dX5_init_1 : decode cX5_init 1 = .ok (.invokespecial 3, 3) := by decide +kernel
theorem dX5_init_4 : decode cX5_init 4 = .ok (.aload_n 0, 1) := by decide +kernel
theorem dX5_init_5 : decode cX5_init 5 = .ok (.iconst 5, 1) := by decide +kernel
theorem dX5_init_6 : decode cX5_init 6 = .ok (.anewarray 9, 3) := by decide +kernel
theorem dX5_init_9 : decode cX5_init 9 = .ok (.putfield 11, 3) := by decide +kernel
theorem dX5_init_12 : decode cX5_init 12 = .ok (.aload_n 0, 1) := by decide +kernel
theorem dX5_init_13 : decode cX5_init 13 = .ok (.bipush 25, 2) := by decide +kernel
theorem dX5_init_15 : decode cX5_init 15 = .ok (.anewarray 17, 3) := by decide +kernel
theorem dX5_init_18 : decode cX5_init 18 = .ok (.putfield 19, 3) := by decide +kernel
theorem dX5_init_21 : decode cX5_init 21 = .ok (.aload_n 0, 1) := by decide +kernel
theorem dX5_init_22 : decode cX5_init 22 = .ok (.bipush 25, 2) := by decide +kernel
theorem dX5_init_24 : decode cX5_init 24 = .ok (.newarray .boolean, 2) := by decide +kernel
theorem dX5_init_26 : decode cX5_init 26 = .ok (.putfield 23, 3) := by decide +kernel
theorem dX5_init_29 : decode cX5_init 29 = .ok (.aload_n 0, 1) := by decide +kernel
theorem dX5_init_30 : decode cX5_init 30 = .ok (.new 27, 3) := by decide +kernel
theorem dX5_init_33 : decode cX5_init 33 = .ok (.dup, 1) := by decide +kernel
theorem dX5_init_34 : decode cX5_init 34 = .ok (.invokespecial 29, 3) := by decide +kernel
theorem dX5_init_37 : decode cX5_init 37 = .ok (.putfield 30, 3) := by decide +kernel
theorem dX5_init_40 : decode cX5_init 40 = .ok (.iconst 0, 1) := by decide +kernel
theorem dX5_init_41 : decode cX5_init 41 = .ok (.istore_n 1, 1) := by decide +kernel
theorem dX5_init_42 : decode cX5_init 42 = .ok (.iload_n 1, 1) := by decide +kernel
theorem dX5_init_43 : decode cX5_init 43 = .ok (.iconst 5, 1) := by decide +kernel
theorem dX5_init_44 : decode cX5_init 44 = .ok (.if_icmp .ge 24, 3) := by decide +kernel
theorem dX5_init_47 : decode cX5_init 47 = .ok (.aload_n 0, 1) := by decide +kernel
theorem dX5_init_48 : decode cX5_init 48 = .ok (.getfield 11, 3) := by decide +kernel
theorem dX5_init_51 : decode cX5_init 51 = .ok (.iload_n 1, 1) := by decide +kernel
theorem dX5_init_52 : decode cX5_init 52 = .ok (.new 9, 3) := by decide +kernel
theorem dX5_init_55 : decode cX5_init 55 = .ok (.dup, 1) := by decide +kernel
theorem dX5_init_56 : decode cX5_init 56 = .ok (.bipush 120, 2) := by decide +kernel
theorem dX5_init_58 : decode cX5_init 58 = .ok (.invokespecial 34, 3) := by decide +kernel
theorem dX5_init_61 : decode cX5_init 61 = .ok (.aastore, 1) := by decide +kernel
theorem dX5_init_62 : decode cX5_init 62 = .ok (.iinc 1 1, 3) := by decide +kernel
theorem dX5_init_65 : decode cX5_init 65 = .ok (.goto (-23), 3) := by decide +kernel
theorem dX5_init_68 : decode cX5_init 68 = .ok (.return_, 1) := by decide +kernel
theorem dX5_has_0 : decode cX5_has 0 = .ok (.iload_n 1, 1) := by decide +kernel
theorem dX5_has_1 : decode cX5_has 1 = .ok (.ifCond .lt 24, 3) := by decide +kernel
theorem dX5_has_4 : decode cX5_has 4 = .ok (.iload_n 1, 1) := by decide +kernel
theorem dX5_has_5 : decode cX5_has 5 = .ok (.iconst 5, 1) := by decide +kernel
theorem dX5_has_6 : decode cX5_has 6 = .ok (.if_icmp .ge 19, 3) := by decide +kernel
theorem dX5_has_9 : decode cX5_has 9 = .ok (.aload_n 0, 1) := by decide +kernel
theorem dX5_has_10 : decode cX5_has 10 = .ok (.getfield 11, 3) := by decide +kernel
theorem dX5_has_13 : decode cX5_has 13 = .ok (.iload_n 1, 1) := by decide +kernel
theorem dX5_has_14 : decode cX5_has 14 = .ok (.aaload, 1) := by decide +kernel
theorem dX5_has_15 : decode cX5_has 15 = .ok (.getfield 37, 3) := by decide +kernel
theorem dX5_has_18 : decode cX5_has 18 = .ok (.ifCond .le 7, 3) := by decide +kernel
theorem dX5_has_21 : decode cX5_has 21 = .ok (.iconst 1, 1) := by decide +kernel
theorem dX5_has_22 : decode cX5_has 22 = .ok (.goto 4, 3) := by decide +kernel
theorem dX5_has_25 : decode cX5_has 25 = .ok (.iconst 0, 1) := by decide +kernel
theorem dX5_has_26 : decode cX5_has 26 = .ok (.ireturn, 1) := by decide +kernel
theorem dX5_bytesOf_0 : decode cX5_bytesOf 0 = .ok (.aload_n 0, 1) := by decide +kernel
theorem dX5_bytesOf_1 : decode cX5_bytesOf 1 = .ok (.getfield 11, 3) := by decide +kernel
theorem dX5_bytesOf_4 : decode cX5_bytesOf 4 = .ok (.iload_n 1, 1) := by decide +kernel
theorem dX5_bytesOf_5 : decode cX5_bytesOf 5 = .ok (.aaload, 1) := by decide +kernel
theorem dX5_bytesOf_6 : decode cX5_bytesOf 6 = .ok (.areturn, 1) := by decide +kernel
theorem dX5_greatest_0 : decode cX5_greatest 0 = .ok (.iconst 4, 1) := by decide +kernel
theorem dX5_greatest_1 : decode cX5_greatest 1 = .ok (.istore_n 1, 1) := by decide +kernel
theorem dX5_greatest_2 : decode cX5_greatest 2 = .ok (.iload_n 1, 1) := by decide +kernel
theorem dX5_greatest_3 : decode cX5_greatest 3 = .ok (.ifCond .lt 19, 3) := by decide +kernel
theorem dX5_greatest_6 : decode cX5_greatest 6 = .ok (.aload_n 0, 1) := by decide +kernel
theorem dX5_greatest_7 : decode cX5_greatest 7 = .ok (.iload_n 1, 1) := by decide +kernel
theorem dX5_greatest_8 : decode cX5_greatest 8 = .ok (.invokevirtual 41, 3) := by decide +kernel
theorem dX5_greatest_11 : decode cX5_greatest 11 = .ok (.ifCond .eq 5, 3) := by decide +kernel
theorem dX5_greatest_14 : decode cX5_greatest 14 = .ok (.iload_n 1, 1) := by decide +kernel
theorem dX5_greatest_15 : decode cX5_greatest 15 = .ok (.ireturn, 1) := by decide +kernel
theorem dX5_greatest_16 : decode cX5_greatest 16 = .ok (.iinc 1 (-1), 3) := by decide +kernel
theorem dX5_greatest_19 : decode cX5_greatest 19 = .ok (.goto (-17), 3) := by decide +kernel
theorem dX5_greatest_22 : decode cX5_greatest 22 = .ok (.iconst (-1), 1) := by decide +kernel
theorem dX5_greatest_23 : decode cX5_greatest 23 = .ok (.ireturn, 1) := by decide +kernel
theorem dX5_replace_0 : decode cX5_replace 0 = .ok (.aload_n 0, 1) := by decide +kernel
theorem dX5_replace_1 : decode cX5_replace 1 = .ok (.getfield 11, 3) := by decide +kernel
theorem dX5_replace_4 : decode cX5_replace 4 = .ok (.iload_n 1, 1) := by decide +kernel
theorem dX5_replace_5 : decode cX5_replace 5 = .ok (.aaload, 1) := by decide +kernel
theorem dX5_replace_6 : decode cX5_replace 6 = .ok (.aload_n 2, 1) := by decide +kernel
theorem dX5_replace_7 : decode cX5_replace 7 = .ok (.iload_n 3, 1) := by decide +kernel
theorem dX5_replace_8 : decode cX5_replace 8 = .ok (.invokevirtual 45, 3) := by decide +kernel
theorem dX5_replace_11 : decode cX5_replace 11 = .ok (.iconst 0, 1) := by decide +kernel
theorem dX5_replace_12 : decode cX5_replace 12 = .ok (.istore 4, 2) := by decide +kernel
theorem dX5_replace_14 : decode cX5_replace 14 = .ok (.iload 4, 2) := by decide +kernel
theorem dX5_replace_16 : decode cX5_replace 16 = .ok (.iconst 5, 1) := by decide +kernel
theorem dX5_replace_17 : decode cX5_replace 17 = .ok (.if_icmp .ge 33, 3) := by decide +kernel
theorem dX5_replace_20 : decode cX5_replace 20 = .ok (.aload_n 0, 1) := by decide +kernel
theorem dX5_replace_21 : decode cX5_replace 21 = .ok (.getfield 23, 3) := by decide +kernel
theorem dX5_replace_24 : decode cX5_replace 24 = .ok (.iload_n 1, 1) := by decide +kernel
theorem dX5_replace_25 : decode cX5_replace 25 = .ok (.iconst 5, 1) := by decide +kernel
theorem dX5_replace_26 : decode cX5_replace 26 = .ok (.imul, 1) := by decide +kernel
theorem dX5_replace_27 : decode cX5_replace 27 = .ok (.iload 4, 2) := by decide +kernel
theorem dX5_replace_29 : decode cX5_replace 29 = .ok (.iadd, 1) := by decide +kernel
theorem dX5_replace_30 : decode cX5_replace 30 = .ok (.iconst 0, 1) := by decide +kernel
theorem dX5_replace_31 : decode cX5_replace 31 = .ok (.bastore, 1) := by decide +kernel
theorem dX5_replace_32 : decode cX5_replace 32 = .ok (.aload_n 0, 1) := by decide +kernel
theorem dX5_replace_33 : decode cX5_replace 33 = .ok (.getfield 23, 3) := by decide +kernel
theorem dX5_replace_36 : decode cX5_replace 36 = .ok (.iload 4, 2) := by decide +kernel
theorem dX5_replace_38 : decode cX5_replace 38 = .ok (.iconst 5, 1) := by decide +kernel
theorem dX5_replace_39 : decode cX5_replace 39 = .ok (.imul, 1) := by decide +kernel
theorem dX5_replace_40 : decode cX5_replace 40 = .ok (.iload_n 1, 1) := by decide +kernel
theorem dX5_replace_41 : decode cX5_replace 41 = .ok (.iadd, 1) := by decide +kernel
end
section
theorem dX5_replace_42 : decode cX5_replace 42 = .ok (.iconst 0, 1) := by decide +kernel
theorem dX5_replace_43 : decode cX5_replace 43 = .ok (.bastore, 1) := by decide +kernel
theorem dX5_replace_44 : decode cX5_replace 44 = .ok (.iinc 4 1, 3) := by decide +kernel
theorem dX5_replace_47 : decode cX5_replace 47 = .ok (.goto (-33), 3) := by decide +kernel
theorem dX5_replace_50 : decode cX5_replace 50 = .ok (.return_, 1) := by decide +kernel
theorem dX5_patchOf_0 : decode cX5_patchOf 0 = .ok (.iload_n 1, 1) := by decide +kernel
theorem dX5_patchOf_1 : decode cX5_patchOf 1 = .ok (.iconst 5, 1) := by decide +kernel
theorem dX5_patchOf_2 : decode cX5_patchOf 2 = .ok (.imul, 1) := by decide +kernel
theorem dX5_patchOf_3 : decode cX5_patchOf 3 = .ok (.iload_n 2, 1) := by decide +kernel
theorem dX5_patchOf_4 : decode cX5_patchOf 4 = .ok (.iadd, 1) := by decide +kernel
theorem dX5_patchOf_5 : decode cX5_patchOf 5 = .ok (.istore_n 3, 1) := by decide +kernel
theorem dX5_patchOf_6 : decode cX5_patchOf 6 = .ok (.aload_n 0, 1) := by decide +kernel
theorem dX5_patchOf_7 : decode cX5_patchOf 7 = .ok (.getfield 19, 3) := by decide +kernel
theorem dX5_patchOf_10 : decode cX5_patchOf 10 = .ok (.iload_n 3, 1) := by decide +kernel
theorem dX5_patchOf_11 : decode cX5_patchOf 11 = .ok (.aaload, 1) := by decide +kernel
theorem dX5_patchOf_12 : decode cX5_patchOf 12 = .ok (.ifnonnull 16, 3) := by decide +kernel
theorem dX5_patchOf_15 : decode cX5_patchOf 15 = .ok (.aload_n 0, 1) := by decide +kernel
theorem dX5_patchOf_16 : decode cX5_patchOf 16 = .ok (.getfield 19, 3) := by decide +kernel
theorem dX5_patchOf_19 : decode cX5_patchOf 19 = .ok (.iload_n 3, 1) := by decide +kernel
theorem dX5_patchOf_20 : decode cX5_patchOf 20 = .ok (.new 17, 3) := by decide +kernel
theorem dX5_patchOf_23 : decode cX5_patchOf 23 = .ok (.dup, 1) := by decide +kernel
theorem dX5_patchOf_24 : decode cX5_patchOf 24 = .ok (.invokespecial 49, 3) := by decide +kernel
theorem dX5_patchOf_27 : decode cX5_patchOf 27 = .ok (.aastore, 1) := by decide +kernel
theorem dX5_patchOf_28 : decode cX5_patchOf 28 = .ok (.aload_n 0, 1) := by decide +kernel
theorem dX5_patchOf_29 : decode cX5_patchOf 29 = .ok (.getfield 23, 3) := by decide +kernel
theorem dX5_patchOf_32 : decode cX5_patchOf 32 = .ok (.iload_n 3, 1) := by decide +kernel
theorem dX5_patchOf_33 : decode cX5_patchOf 33 = .ok (.baload, 1) := by decide +kernel
theorem dX5_patchOf_34 : decode cX5_patchOf 34 = .ok (.ifCond .ne 35, 3) := by decide +kernel
theorem dX5_patchOf_37 : decode cX5_patchOf 37 = .ok (.aload_n 0, 1) := by decide +kernel
theorem dX5_patchOf_38 : decode cX5_patchOf 38 = .ok (.getfield 30, 3) := by decide +kernel
theorem dX5_patchOf_41 : decode cX5_patchOf 41 = .ok (.aload_n 0, 1) := by decide +kernel
theorem dX5_patchOf_42 : decode cX5_patchOf 42 = .ok (.getfield 11, 3) := by decide +kernel
theorem dX5_patchOf_45 : decode cX5_patchOf 45 = .ok (.iload_n 1, 1) := by decide +kernel
theorem dX5_patchOf_46 : decode cX5_patchOf 46 = .ok (.aaload, 1) := by decide +kernel
theorem dX5_patchOf_47 : decode cX5_patchOf 47 = .ok (.aload_n 0, 1) := by decide +kernel
theorem dX5_patchOf_48 : decode cX5_patchOf 48 = .ok (.getfield 11, 3) := by decide +kernel
theorem dX5_patchOf_51 : decode cX5_patchOf 51 = .ok (.iload_n 2, 1) := by decide +kernel
theorem dX5_patchOf_52 : decode cX5_patchOf 52 = .ok (.aaload, 1) := by decide +kernel
theorem dX5_patchOf_53 : decode cX5_patchOf 53 = .ok (.aload_n 0, 1) := by decide +kernel
theorem dX5_patchOf_54 : decode cX5_patchOf 54 = .ok (.getfield 19, 3) := by decide +kernel
theorem dX5_patchOf_57 : decode cX5_patchOf 57 = .ok (.iload_n 3, 1) := by decide +kernel
theorem dX5_patchOf_58 : decode cX5_patchOf 58 = .ok (.aaload, 1) := by decide +kernel
theorem dX5_patchOf_59 : decode cX5_patchOf 59 = .ok (.invokevirtual 50, 3) := by decide +kernel
theorem dX5_patchOf_62 : decode cX5_patchOf 62 = .ok (.aload_n 0, 1) := by decide +kernel
theorem dX5_patchOf_63 : decode cX5_patchOf 63 = .ok (.getfield 23, 3) := by decide +kernel
theorem dX5_patchOf_66 : decode cX5_patchOf 66 = .ok (.iload_n 3, 1) := by decide +kernel
theorem dX5_patchOf_67 : decode cX5_patchOf 67 = .ok (.iconst 1, 1) := by decide +kernel
theorem dX5_patchOf_68 : decode cX5_patchOf 68 = .ok (.bastore, 1) := by decide +kernel
theorem dX5_patchOf_69 : decode cX5_patchOf 69 = .ok (.aload_n 0, 1) := by decide +kernel
theorem dX5_patchOf_70 : decode cX5_patchOf 70 = .ok (.getfield 19, 3) := by decide +kernel
theorem dX5_patchOf_73 : decode cX5_patchOf 73 = .ok (.iload_n 3, 1) := by decide +kernel
theorem dX5_patchOf_74 : decode cX5_patchOf 74 = .ok (.aaload, 1) := by decide +kernel
theorem dX5_patchOf_75 : decode cX5_patchOf 75 = .ok (.areturn, 1) := by decide +kernel
theorem dX5_priceOf_0 : decode cX5_priceOf 0 = .ok (.aload_n 0, 1) := by decide +kernel
theorem dX5_priceOf_1 : decode cX5_priceOf 1 = .ok (.iload_n 1, 1) := by decide +kernel
theorem dX5_priceOf_2 : decode cX5_priceOf 2 = .ok (.invokevirtual 41, 3) := by decide +kernel
theorem dX5_priceOf_5 : decode cX5_priceOf 5 = .ok (.ifCond .eq 23, 3) := by decide +kernel
theorem dX5_priceOf_8 : decode cX5_priceOf 8 = .ok (.aload_n 0, 1) := by decide +kernel
theorem dX5_priceOf_9 : decode cX5_priceOf 9 = .ok (.iload_n 2, 1) := by decide +kernel
theorem dX5_priceOf_10 : decode cX5_priceOf 10 = .ok (.invokevirtual 41, 3) := by decide +kernel
theorem dX5_priceOf_13 : decode cX5_priceOf 13 = .ok (.ifCond .eq 15, 3) := by decide +kernel
theorem dX5_priceOf_16 : decode cX5_priceOf 16 = .ok (.aload_n 0, 1) := by decide +kernel
theorem dX5_priceOf_17 : decode cX5_priceOf 17 = .ok (.iload_n 1, 1) := by decide +kernel
theorem dX5_priceOf_18 : decode cX5_priceOf 18 = .ok (.iload_n 2, 1) := by decide +kernel
theorem dX5_priceOf_19 : decode cX5_priceOf 19 = .ok (.invokevirtual 54, 3) := by decide +kernel
theorem dX5_priceOf_22 : decode cX5_priceOf 22 = .ok (.getfield 58, 3) := by decide +kernel
theorem dX5_priceOf_25 : decode cX5_priceOf 25 = .ok (.goto 4, 3) := by decide +kernel
theorem dX5_priceOf_28 : decode cX5_priceOf 28 = .ok (.iconst (-1), 1) := by decide +kernel
theorem dX5_priceOf_29 : decode cX5_priceOf 29 = .ok (.ireturn, 1) := by decide +kernel
theorem dX6_init_0 : decode cX6_init 0 = .ok (.aload_n 0, 1) := by decide +kernel
theorem dX6_init_1 : decode cX6_init 1 = .ok (.invokespecial 3, 3) := by decide +kernel
theorem dX6_init_4 : decode cX6_init 4 = .ok (.aload_n 0, 1) := by decide +kernel
theorem dX6_init_5 : decode cX6_init 5 = .ok (.bipush 120, 2) := by decide +kernel
theorem dX6_init_7 : decode cX6_init 7 = .ok (.newarray .int, 2) := by decide +kernel
theorem dX6_init_9 : decode cX6_init 9 = .ok (.putfield 9, 3) := by decide +kernel
theorem dX6_init_12 : decode cX6_init 12 = .ok (.aload_n 0, 1) := by decide +kernel
theorem dX6_init_13 : decode cX6_init 13 = .ok (.bipush 120, 2) := by decide +kernel
theorem dX6_init_15 : decode cX6_init 15 = .ok (.newarray .int, 2) := by decide +kernel
theorem dX6_init_17 : decode cX6_init 17 = .ok (.putfield 15, 3) := by decide +kernel
theorem dX6_init_20 : decode cX6_init 20 = .ok (.aload_n 0, 1) := by decide +kernel
theorem dX6_init_21 : decode cX6_init 21 = .ok (.bipush 120, 2) := by decide +kernel
theorem dX6_init_23 : decode cX6_init 23 = .ok (.newarray .boolean, 2) := by decide +kernel
theorem dX6_init_25 : decode cX6_init 25 = .ok (.putfield 18, 3) := by decide +kernel
theorem dX6_init_28 : decode cX6_init 28 = .ok (.return_, 1) := by decide +kernel
theorem dX6_follow_0 : decode cX6_follow 0 = .ok (.aload_n 0, 1) := by decide +kernel
theorem dX6_follow_1 : decode cX6_follow 1 = .ok (.iconst 0, 1) := by decide +kernel
theorem dX6_follow_2 : decode cX6_follow 2 = .ok (.putfield 22, 3) := by decide +kernel
theorem dX6_follow_5 : decode cX6_follow 5 = .ok (.iconst 0, 1) := by decide +kernel
theorem dX6_follow_6 : decode cX6_follow 6 = .ok (.istore_n 3, 1) := by decide +kernel
theorem dX6_follow_7 : decode cX6_follow 7 = .ok (.iload_n 3, 1) := by decide +kernel
theorem dX6_follow_8 : decode cX6_follow 8 = .ok (.aload_n 1, 1) := by decide +kernel
theorem dX6_follow_9 : decode cX6_follow 9 = .ok (.getfield 26, 3) := by decide +kernel
theorem dX6_follow_12 : decode cX6_follow 12 = .ok (.if_icmp .ge 123, 3) := by decide +kernel
theorem dX6_follow_15 : decode cX6_follow 15 = .ok (.aload_n 1, 1) := by decide +kernel
theorem dX6_follow_16 : decode cX6_follow 16 = .ok (.getfield 31, 3) := by decide +kernel
theorem dX6_follow_19 : decode cX6_follow 19 = .ok (.iload_n 3, 1) := by decide +kernel
theorem dX6_follow_20 : decode cX6_follow 20 = .ok (.iaload, 1) := by decide +kernel
theorem dX6_follow_21 : decode cX6_follow 21 = .ok (.iconst 2, 1) := by decide +kernel
theorem dX6_follow_22 : decode cX6_follow 22 = .ok (.if_icmp .ne 7, 3) := by decide +kernel
theorem dX6_follow_25 : decode cX6_follow 25 = .ok (.iconst 1, 1) := by decide +kernel
theorem dX6_follow_26 : decode cX6_follow 26 = .ok (.goto 4, 3) := by decide +kernel
theorem dX6_follow_29 : decode cX6_follow 29 = .ok (.iconst 0, 1) := by decide +kernel
theorem dX6_follow_30 : decode cX6_follow 30 = .ok (.istore 4, 2) := by decide +kernel
theorem dX6_follow_32 : decode cX6_follow 32 = .ok (.iconst 0, 1) := by decide +kernel
theorem dX6_follow_33 : decode cX6_follow 33 = .ok (.istore 5, 2) := by decide +kernel
theorem dX6_follow_35 : decode cX6_follow 35 = .ok (.iload 5, 2) := by decide +kernel
theorem dX6_follow_37 : decode cX6_follow 37 = .ok (.aload_n 1, 1) := by decide +kernel
theorem dX6_follow_38 : decode cX6_follow 38 = .ok (.getfield 34, 3) := by decide +kernel
theorem dX6_follow_41 : decode cX6_follow 41 = .ok (.iload_n 3, 1) := by decide +kernel
theorem dX6_follow_42 : decode cX6_follow 42 = .ok (.iaload, 1) := by decide +kernel
theorem dX6_follow_43 : decode cX6_follow 43 = .ok (.if_icmp .ge 86, 3) := by decide +kernel
theorem dX6_follow_46 : decode cX6_follow 46 = .ok (.aload_n 0, 1) := by decide +kernel
theorem dX6_follow_47 : decode cX6_follow 47 = .ok (.getfield 22, 3) := by decide +kernel
theorem dX6_follow_50 : decode cX6_follow 50 = .ok (.bipush 120, 2) := by decide +kernel
theorem dX6_follow_52 : decode cX6_follow 52 = .ok (.if_icmp .ge 77, 3) := by decide +kernel
theorem dX6_follow_55 : decode cX6_follow 55 = .ok (.aload_n 0, 1) := by decide +kernel
theorem dX6_follow_56 : decode cX6_follow 56 = .ok (.getfield 9, 3) := by decide +kernel
theorem dX6_follow_59 : decode cX6_follow 59 = .ok (.aload_n 0, 1) := by decide +kernel
theorem dX6_follow_60 : decode cX6_follow 60 = .ok (.getfield 22, 3) := by decide +kernel
theorem dX6_follow_63 : decode cX6_follow 63 = .ok (.iload 4, 2) := by decide +kernel
theorem dX6_follow_65 : decode cX6_follow 65 = .ok (.ifCond .eq 7, 3) := by decide +kernel
theorem dX6_follow_68 : decode cX6_follow 68 = .ok (.iconst (-1), 1) := by decide +kernel
theorem dX6_follow_69 : decode cX6_follow 69 = .ok (.goto 12, 3) := by decide +kernel
theorem dX6_follow_72 : decode cX6_follow 72 = .ok (.aload_n 1, 1) := by decide +kernel
theorem dX6_follow_73 : decode cX6_follow 73 = .ok (.getfield 37, 3) := by decide +kernel
theorem dX6_follow_76 : decode cX6_follow 76 = .ok (.iload_n 3, 1) := by decide +kernel
theorem dX6_follow_77 : decode cX6_follow 77 = .ok (.iaload, 1) := by decide +kernel
theorem dX6_follow_78 : decode cX6_follow 78 = .ok (.iload 5, 2) := by decide +kernel
theorem dX6_follow_80 : decode cX6_follow 80 = .ok (.iadd, 1) := by decide +kernel
theorem dX6_follow_81 : decode cX6_follow 81 = .ok (.iastore, 1) := by decide +kernel
theorem dX6_follow_82 : decode cX6_follow 82 = .ok (.aload_n 0, 1) := by decide +kernel
theorem dX6_follow_83 : decode cX6_follow 83 = .ok (.getfield 15, 3) := by decide +kernel
theorem dX6_follow_86 : decode cX6_follow 86 = .ok (.aload_n 0, 1) := by decide +kernel
theorem dX6_follow_87 : decode cX6_follow 87 = .ok (.getfield 22, 3) := by decide +kernel
theorem dX6_follow_90 : decode cX6_follow 90 = .ok (.iload 4, 2) := by decide +kernel
theorem dX6_follow_92 : decode cX6_follow 92 = .ok (.ifCond .eq 14, 3) := by decide +kernel
theorem dX6_follow_95 : decode cX6_follow 95 = .ok (.aload_n 2, 1) := by decide +kernel
theorem dX6_follow_96 : decode cX6_follow 96 = .ok (.aload_n 0, 1) := by decide +kernel
theorem dX6_follow_97 : decode cX6_follow 97 = .ok (.getfield 22, 3) := by decide +kernel
theorem dX6_follow_100 : decode cX6_follow 100 = .ok (.invokevirtual 38, 3) := by decide +kernel
theorem dX6_follow_103 : decode cX6_follow 103 = .ok (.goto 9, 3) := by decide +kernel
theorem dX6_follow_106 : decode cX6_follow 106 = .ok (.aload_n 1, 1) := by decide +kernel
theorem dX6_follow_107 : decode cX6_follow 107 = .ok (.getfield 44, 3) := by decide +kernel
theorem dX6_follow_110 : decode cX6_follow 110 = .ok (.iload_n 3, 1) := by decide +kernel
theorem dX6_follow_111 : decode cX6_follow 111 = .ok (.iaload, 1) := by decide +kernel
theorem dX6_follow_112 : decode cX6_follow 112 = .ok (.iastore, 1) := by decide +kernel
theorem dX6_follow_113 : decode cX6_follow 113 = .ok (.aload_n 0, 1) := by decide +kernel
theorem dX6_follow_114 : decode cX6_follow 114 = .ok (.dup, 1) := by decide +kernel
theorem dX6_follow_115 : decode cX6_follow 115 = .ok (.getfield 22, 3) := by decide +kernel
theorem dX6_follow_118 : decode cX6_follow 118 = .ok (.iconst 1, 1) := by decide +kernel
theorem dX6_follow_119 : decode cX6_follow 119 = .ok (.iadd, 1) := by decide +kernel
theorem dX6_follow_120 : decode cX6_follow 120 = .ok (.putfield 22, 3) := by decide +kernel
theorem dX6_follow_123 : decode cX6_follow 123 = .ok (.iinc 5 1, 3) := by decide +kernel
theorem dX6_follow_126 : decode cX6_follow 126 = .ok (.goto (-91), 3) := by decide +kernel
theorem dX6_follow_129 : decode cX6_follow 129 = .ok (.iinc 3 1, 3) := by decide +kernel
theorem dX6_follow_132 : decode cX6_follow 132 = .ok (.goto (-125), 3) := by decide +kernel
theorem dX6_follow_135 : decode cX6_follow 135 = .ok (.return_, 1) := by decide +kernel
theorem dX6_take_0 : decode cX6_take 0 = .ok (.aload_n 1, 1) := by decide +kernel
theorem dX6_take_1 : decode cX6_take 1 = .ok (.getfield 9, 3) := by decide +kernel
theorem dX6_take_4 : decode cX6_take 4 = .ok (.iconst 0, 1) := by decide +kernel
theorem dX6_take_5 : decode cX6_take 5 = .ok (.aload_n 0, 1) := by decide +kernel
theorem dX6_take_6 : decode cX6_take 6 = .ok (.getfield 9, 3) := by decide +kernel
theorem dX6_take_9 : decode cX6_take 9 = .ok (.iconst 0, 1) := by decide +kernel
theorem dX6_take_10 : decode cX6_take 10 = .ok (.bipush 120, 2) := by decide +kernel
theorem dX6_take_12 : decode cX6_take 12 = .ok (.invokestatic 47, 3) := by decide +kernel
theorem dX6_take_15 : decode cX6_take 15 = .ok (.aload_n 1, 1) := by decide +kernel
theorem dX6_take_16 : decode cX6_take 16 = .ok (.getfield 15, 3) := by decide +kernel
theorem dX6_take_19 : decode cX6_take 19 = .ok (.iconst 0, 1) := by decide +kernel
theorem dX6_take_20 : decode cX6_take 20 = .ok (.aload_n 0, 1) := by decide +kernel
theorem dX6_take_21 : decode cX6_take 21 = .ok (.getfield 15, 3) := by decide +kernel
theorem dX6_take_24 : decode cX6_take 24 = .ok (.iconst 0, 1) := by decide +kernel
theorem dX6_take_25 : decode cX6_take 25 = .ok (.bipush 120, 2) := by decide +kernel
theorem dX6_take_27 : decode cX6_take 27 = .ok (.invokestatic 47, 3) := by decide +kernel
theorem dX6_take_30 : decode cX6_take 30 = .ok (.aload_n 0, 1) := by decide +kernel
theorem dX6_take_31 : decode cX6_take 31 = .ok (.aload_n 1, 1) := by decide +kernel
theorem dX6_take_32 : decode cX6_take 32 = .ok (.getfield 22, 3) := by decide +kernel
theorem dX6_take_35 : decode cX6_take 35 = .ok (.putfield 22, 3) := by decide +kernel
theorem dX6_take_38 : decode cX6_take 38 = .ok (.return_, 1) := by decide +kernel
theorem dX6_reachThrough_0 : decode cX6_reachThrough 0 = .ok (.iconst 0, 1) := by decide +kernel
theorem dX6_reachThrough_1 : decode cX6_reachThrough 1 = .ok (.istore_n 2, 1) := by decide +kernel
theorem dX6_reachThrough_2 : decode cX6_reachThrough 2 = .ok (.iload_n 2, 1) := by decide +kernel
theorem dX6_reachThrough_3 : decode cX6_reachThrough 3 = .ok (.aload_n 0, 1) := by decide +kernel
theorem dX6_reachThrough_4 : decode cX6_reachThrough 4 = .ok (.getfield 22, 3) := by decide +kernel
theorem dX6_reachThrough_7 : decode cX6_reachThrough 7 = .ok (.if_icmp .ge 63, 3) := by decide +kernel
theorem dX6_reachThrough_10 : decode cX6_reachThrough 10 = .ok (.aload_n 0, 1) := by decide +kernel
theorem dX6_reachThrough_11 : decode cX6_reachThrough 11 = .ok (.getfield 9, 3) := by decide +kernel
theorem dX6_reachThrough_14 : decode cX6_reachThrough 14 = .ok (.iload_n 2, 1) := by decide +kernel
theorem dX6_reachThrough_15 : decode cX6_reachThrough 15 = .ok (.iaload, 1) := by decide +kernel
theorem dX6_reachThrough_16 : decode cX6_reachThrough 16 = .ok (.istore_n 3, 1) := by decide +kernel
theorem dX6_reachThrough_17 : decode cX6_reachThrough 17 = .ok (.iload_n 3, 1) := by decide +kernel
theorem dX6_reachThrough_18 : decode cX6_reachThrough 18 = .ok (.ifCond .lt 46, 3) := by decide +kernel
theorem dX6_reachThrough_21 : decode cX6_reachThrough 21 = .ok (.iload_n 3, 1) := by decide +kernel
theorem dX6_reachThrough_22 : decode cX6_reachThrough 22 = .ok (.aload_n 1, 1) := by decide +kernel
theorem dX6_reachThrough_23 : decode cX6_reachThrough 23 = .ok (.getfield 22, 3) := by decide +kernel
theorem dX6_reachThrough_26 : decode cX6_reachThrough 26 = .ok (.if_icmp .ge 38, 3) := by decide +kernel
theorem dX6_reachThrough_29 : decode cX6_reachThrough 29 = .ok (.aload_n 0, 1) := by decide +kernel
theorem dX6_reachThrough_30 : decode cX6_reachThrough 30 = .ok (.getfield 9, 3) := by decide +kernel
theorem dX6_reachThrough_33 : decode cX6_reachThrough 33 = .ok (.iload_n 2, 1) := by decide +kernel
theorem dX6_reachThrough_34 : decode cX6_reachThrough 34 = .ok (.aload_n 1, 1) := by decide +kernel
theorem dX6_reachThrough_35 : decode cX6_reachThrough 35 = .ok (.getfield 9, 3) := by decide +kernel
theorem dX6_reachThrough_38 : decode cX6_reachThrough 38 = .ok (.iload_n 3, 1) := by decide +kernel
theorem dX6_reachThrough_39 : decode cX6_reachThrough 39 = .ok (.iaload, 1) := by decide +kernel
theorem dX6_reachThrough_40 : decode cX6_reachThrough 40 = .ok (.iastore, 1) := by decide +kernel
theorem dX6_reachThrough_41 : decode cX6_reachThrough 41 = .ok (.aload_n 0, 1) := by decide +kernel
theorem dX6_reachThrough_42 : decode cX6_reachThrough 42 = .ok (.getfield 15, 3) := by decide +kernel
theorem dX6_reachThrough_45 : decode cX6_reachThrough 45 = .ok (.iload_n 2, 1) := by decide +kernel
theorem dX6_reachThrough_46 : decode cX6_reachThrough 46 = .ok (.aload_n 0, 1) := by decide +kernel
theorem dX6_reachThrough_47 : decode cX6_reachThrough 47 = .ok (.getfield 15, 3) := by decide +kernel
theorem dX6_reachThrough_50 : decode cX6_reachThrough 50 = .ok (.iload_n 2, 1) := by decide +kernel
theorem dX6_reachThrough_51 : decode cX6_reachThrough 51 = .ok (.iaload, 1) := by decide +kernel
theorem dX6_reachThrough_52 : decode cX6_reachThrough 52 = .ok (.aload_n 1, 1) := by decide +kernel
theorem dX6_reachThrough_53 : decode cX6_reachThrough 53 = .ok (.getfield 15, 3) := by decide +kernel
theorem dX6_reachThrough_56 : decode cX6_reachThrough 56 = .ok (.iload_n 3, 1) := by decide +kernel
theorem dX6_reachThrough_57 : decode cX6_reachThrough 57 = .ok (.iaload, 1) := by decide +kernel
theorem dX6_reachThrough_58 : decode cX6_reachThrough 58 = .ok (.iadd, 1) := by decide +kernel
theorem dX6_reachThrough_59 : decode cX6_reachThrough 59 = .ok (.sipush 255, 3) := by decide +kernel
theorem dX6_reachThrough_62 : decode cX6_reachThrough 62 = .ok (.iand, 1) := by decide +kernel
theorem dX6_reachThrough_63 : decode cX6_reachThrough 63 = .ok (.iastore, 1) := by decide +kernel
theorem dX6_reachThrough_64 : decode cX6_reachThrough 64 = .ok (.iinc 2 1, 3) := by decide +kernel
theorem dX6_reachThrough_67 : decode cX6_reachThrough 67 = .ok (.goto (-65), 3) := by decide +kernel
theorem dX6_reachThrough_70 : decode cX6_reachThrough 70 = .ok (.return_, 1) := by decide +kernel
theorem dX6_gather_0 : decode cX6_gather 0 = .ok (.aload_n 1, 1) := by decide +kernel
theorem dX6_gather_1 : decode cX6_gather 1 = .ok (.invokevirtual 53, 3) := by decide +kernel
theorem dX6_gather_4 : decode cX6_gather 4 = .ok (.iconst 0, 1) := by decide +kernel
theorem dX6_gather_5 : decode cX6_gather 5 = .ok (.istore_n 2, 1) := by decide +kernel
theorem dX6_gather_6 : decode cX6_gather 6 = .ok (.iconst 0, 1) := by decide +kernel
theorem dX6_gather_7 : decode cX6_gather 7 = .ok (.istore_n 3, 1) := by decide +kernel
theorem dX6_gather_8 : decode cX6_gather 8 = .ok (.iload_n 3, 1) := by decide +kernel
theorem dX6_gather_9 : decode cX6_gather 9 = .ok (.aload_n 0, 1) := by decide +kernel
theorem dX6_gather_10 : decode cX6_gather 10 = .ok (.getfield 22, 3) := by decide +kernel
theorem dX6_gather_13 : decode cX6_gather 13 = .ok (.if_icmp .ge 98, 3) := by decide +kernel
theorem dX6_gather_16 : decode cX6_gather 16 = .ok (.iload_n 3, 1) := by decide +kernel
theorem dX6_gather_17 : decode cX6_gather 17 = .ok (.iload_n 2, 1) := by decide +kernel
theorem dX6_gather_18 : decode cX6_gather 18 = .ok (.if_icmp .ne 87, 3) := by decide +kernel
theorem dX6_gather_21 : decode cX6_gather 21 = .ok (.aload_n 0, 1) := by decide +kernel
theorem dX6_gather_22 : decode cX6_gather 22 = .ok (.getfield 9, 3) := by decide +kernel
theorem dX6_gather_25 : decode cX6_gather 25 = .ok (.iload_n 3, 1) := by decide +kernel
theorem dX6_gather_26 : decode cX6_gather 26 = .ok (.iaload, 1) := by decide +kernel
theorem dX6_gather_27 : decode cX6_gather 27 = .ok (.iconst (-1), 1) := by decide +kernel
theorem dX6_gather_28 : decode cX6_gather 28 = .ok (.if_icmp .ne 11, 3) := by decide +kernel
theorem dX6_gather_31 : decode cX6_gather 31 = .ok (.aload_n 0, 1) := by decide +kernel
theorem dX6_gather_32 : decode cX6_gather 32 = .ok (.iload_n 3, 1) := by decide +kernel
theorem dX6_gather_33 : decode cX6_gather 33 = .ok (.invokevirtual 56, 3) := by decide +kernel
theorem dX6_gather_36 : decode cX6_gather 36 = .ok (.goto 8, 3) := by decide +kernel
theorem dX6_gather_39 : decode cX6_gather 39 = .ok (.aload_n 0, 1) := by decide +kernel
theorem dX6_gather_40 : decode cX6_gather 40 = .ok (.iload_n 3, 1) := by decide +kernel
theorem dX6_gather_41 : decode cX6_gather 41 = .ok (.invokevirtual 59, 3) := by decide +kernel
theorem dX6_gather_44 : decode cX6_gather 44 = .ok (.istore 4, 2) := by decide +kernel
theorem dX6_gather_46 : decode cX6_gather 46 = .ok (.aload_n 0, 1) := by decide +kernel
theorem dX6_gather_47 : decode cX6_gather 47 = .ok (.getfield 9, 3) := by decide +kernel
theorem dX6_gather_50 : decode cX6_gather 50 = .ok (.iload_n 3, 1) := by decide +kernel
theorem dX6_gather_51 : decode cX6_gather 51 = .ok (.iaload, 1) := by decide +kernel
theorem dX6_gather_52 : decode cX6_gather 52 = .ok (.iconst (-1), 1) := by decide +kernel
theorem dX6_gather_53 : decode cX6_gather 53 = .ok (.if_icmp .ne 15, 3) := by decide +kernel
theorem dX6_gather_56 : decode cX6_gather 56 = .ok (.aload_n 1, 1) := by decide +kernel
theorem dX6_gather_57 : decode cX6_gather 57 = .ok (.iconst 2, 1) := by decide +kernel
theorem dX6_gather_58 : decode cX6_gather 58 = .ok (.iload 4, 2) := by decide +kernel
theorem dX6_gather_60 : decode cX6_gather 60 = .ok (.iload_n 3, 1) := by decide +kernel
theorem dX6_gather_61 : decode cX6_gather 61 = .ok (.iconst 0, 1) := by decide +kernel
theorem dX6_gather_62 : decode cX6_gather 62 = .ok (.invokevirtual 62, 3) := by decide +kernel
theorem dX6_gather_65 : decode cX6_gather 65 = .ok (.goto 35, 3) := by decide +kernel
theorem dX6_gather_68 : decode cX6_gather 68 = .ok (.aload_n 1, 1) := by decide +kernel
theorem dX6_gather_69 : decode cX6_gather 69 = .ok (.aload_n 0, 1) := by decide +kernel
theorem dX6_gather_70 : decode cX6_gather 70 = .ok (.getfield 15, 3) := by decide +kernel
theorem dX6_gather_73 : decode cX6_gather 73 = .ok (.iload_n 3, 1) := by decide +kernel
theorem dX6_gather_74 : decode cX6_gather 74 = .ok (.iaload, 1) := by decide +kernel
theorem dX6_gather_75 : decode cX6_gather 75 = .ok (.ifCond .ne 7, 3) := by decide +kernel
theorem dX6_gather_78 : decode cX6_gather 78 = .ok (.iconst 0, 1) := by decide +kernel
theorem dX6_gather_79 : decode cX6_gather 79 = .ok (.goto 4, 3) := by decide +kernel
theorem dX6_gather_82 : decode cX6_gather 82 = .ok (.iconst 1, 1) := by decide +kernel
theorem dX6_gather_83 : decode cX6_gather 83 = .ok (.iload 4, 2) := by decide +kernel
theorem dX6_gather_85 : decode cX6_gather 85 = .ok (.aload_n 0, 1) := by decide +kernel
theorem dX6_gather_86 : decode cX6_gather 86 = .ok (.getfield 9, 3) := by decide +kernel
theorem dX6_gather_89 : decode cX6_gather 89 = .ok (.iload_n 3, 1) := by decide +kernel
theorem dX6_gather_90 : decode cX6_gather 90 = .ok (.iaload, 1) := by decide +kernel
theorem dX6_gather_91 : decode cX6_gather 91 = .ok (.aload_n 0, 1) := by decide +kernel
theorem dX6_gather_92 : decode cX6_gather 92 = .ok (.getfield 15, 3) := by decide +kernel
theorem dX6_gather_95 : decode cX6_gather 95 = .ok (.iload_n 3, 1) := by decide +kernel
theorem dX6_gather_96 : decode cX6_gather 96 = .ok (.iaload, 1) := by decide +kernel
theorem dX6_gather_97 : decode cX6_gather 97 = .ok (.invokevirtual 62, 3) := by decide +kernel
theorem dX6_gather_100 : decode cX6_gather 100 = .ok (.iload_n 3, 1) := by decide +kernel
theorem dX6_gather_101 : decode cX6_gather 101 = .ok (.iload 4, 2) := by decide +kernel
theorem dX6_gather_103 : decode cX6_gather 103 = .ok (.iadd, 1) := by decide +kernel
theorem dX6_gather_104 : decode cX6_gather 104 = .ok (.istore_n 2, 1) := by decide +kernel
theorem dX6_gather_105 : decode cX6_gather 105 = .ok (.iinc 3 1, 3) := by decide +kernel
theorem dX6_gather_108 : decode cX6_gather 108 = .ok (.goto (-100), 3) := by decide +kernel
theorem dX6_gather_111 : decode cX6_gather 111 = .ok (.return_, 1) := by decide +kernel
theorem dX6_addedFrom_0 : decode cX6_addedFrom 0 = .ok (.iconst 1, 1) := by decide +kernel
theorem dX6_addedFrom_1 : decode cX6_addedFrom 1 = .ok (.istore_n 2, 1) := by decide +kernel
theorem dX6_addedFrom_2 : decode cX6_addedFrom 2 = .ok (.iload_n 2, 1) := by decide +kernel
theorem dX6_addedFrom_3 : decode cX6_addedFrom 3 = .ok (.bipush 30, 2) := by decide +kernel
theorem dX6_addedFrom_5 : decode cX6_addedFrom 5 = .ok (.if_icmp .ge 31, 3) := by decide +kernel
theorem dX6_addedFrom_8 : decode cX6_addedFrom 8 = .ok (.iload_n 1, 1) := by decide +kernel
theorem dX6_addedFrom_9 : decode cX6_addedFrom 9 = .ok (.iload_n 2, 1) := by decide +kernel
theorem dX6_addedFrom_10 : decode cX6_addedFrom 10 = .ok (.iadd, 1) := by decide +kernel
theorem dX6_addedFrom_11 : decode cX6_addedFrom 11 = .ok (.aload_n 0, 1) := by decide +kernel
theorem dX6_addedFrom_12 : decode cX6_addedFrom 12 = .ok (.getfield 22, 3) := by decide +kernel
theorem dX6_addedFrom_15 : decode cX6_addedFrom 15 = .ok (.if_icmp .ge 21, 3) := by decide +kernel
theorem dX6_addedFrom_18 : decode cX6_addedFrom 18 = .ok (.aload_n 0, 1) := by decide +kernel
theorem dX6_addedFrom_19 : decode cX6_addedFrom 19 = .ok (.getfield 9, 3) := by decide +kernel
theorem dX6_addedFrom_22 : decode cX6_addedFrom 22 = .ok (.iload_n 1, 1) := by decide +kernel
theorem dX6_addedFrom_23 : decode cX6_addedFrom 23 = .ok (.iload_n 2, 1) := by decide +kernel
theorem dX6_addedFrom_24 : decode cX6_addedFrom 24 = .ok (.iadd, 1) := by decide +kernel
theorem dX6_addedFrom_25 : decode cX6_addedFrom 25 = .ok (.iaload, 1) := by decide +kernel
theorem dX6_addedFrom_26 : decode cX6_addedFrom 26 = .ok (.iconst (-1), 1) := by decide +kernel
theorem dX6_addedFrom_27 : decode cX6_addedFrom 27 = .ok (.if_icmp .ne 9, 3) := by decide +kernel
theorem dX6_addedFrom_30 : decode cX6_addedFrom 30 = .ok (.iinc 2 1, 3) := by decide +kernel
theorem dX6_addedFrom_33 : decode cX6_addedFrom 33 = .ok (.goto (-31), 3) := by decide +kernel
theorem dX6_addedFrom_36 : decode cX6_addedFrom 36 = .ok (.iload_n 2, 1) := by decide +kernel
theorem dX6_addedFrom_37 : decode cX6_addedFrom 37 = .ok (.ireturn, 1) := by decide +kernel
theorem dX6_alikeFrom_0 : decode cX6_alikeFrom 0 = .ok (.iconst 1, 1) := by decide +kernel
theorem dX6_alikeFrom_1 : decode cX6_alikeFrom 1 = .ok (.istore_n 2, 1) := by decide +kernel
theorem dX6_alikeFrom_2 : decode cX6_alikeFrom 2 = .ok (.iload_n 1, 1) := by decide +kernel
theorem dX6_alikeFrom_3 : decode cX6_alikeFrom 3 = .ok (.iload_n 2, 1) := by decide +kernel
theorem dX6_alikeFrom_4 : decode cX6_alikeFrom 4 = .ok (.iadd, 1) := by decide +kernel
theorem dX6_alikeFrom_5 : decode cX6_alikeFrom 5 = .ok (.aload_n 0, 1) := by decide +kernel
theorem dX6_alikeFrom_6 : decode cX6_alikeFrom 6 = .ok (.getfield 22, 3) := by decide +kernel
theorem dX6_alikeFrom_9 : decode cX6_alikeFrom 9 = .ok (.if_icmp .ge 45, 3) := by decide +kernel
theorem dX6_alikeFrom_12 : decode cX6_alikeFrom 12 = .ok (.aload_n 0, 1) := by decide +kernel
theorem dX6_alikeFrom_13 : decode cX6_alikeFrom 13 = .ok (.getfield 9, 3) := by decide +kernel
theorem dX6_alikeFrom_16 : decode cX6_alikeFrom 16 = .ok (.iload_n 1, 1) := by decide +kernel
theorem dX6_alikeFrom_17 : decode cX6_alikeFrom 17 = .ok (.iload_n 2, 1) := by decide +kernel
theorem dX6_alikeFrom_18 : decode cX6_alikeFrom 18 = .ok (.iadd, 1) := by decide +kernel
theorem dX6_alikeFrom_19 : decode cX6_alikeFrom 19 = .ok (.iaload, 1) := by decide +kernel
theorem dX6_alikeFrom_20 : decode cX6_alikeFrom 20 = .ok (.aload_n 0, 1) := by decide +kernel
theorem dX6_alikeFrom_21 : decode cX6_alikeFrom 21 = .ok (.getfield 9, 3) := by decide +kernel
theorem dX6_alikeFrom_24 : decode cX6_alikeFrom 24 = .ok (.iload_n 1, 1) := by decide +kernel
theorem dX6_alikeFrom_25 : decode cX6_alikeFrom 25 = .ok (.iaload, 1) := by decide +kernel
theorem dX6_alikeFrom_26 : decode cX6_alikeFrom 26 = .ok (.iload_n 2, 1) := by decide +kernel
theorem dX6_alikeFrom_27 : decode cX6_alikeFrom 27 = .ok (.iadd, 1) := by decide +kernel
theorem dX6_alikeFrom_28 : decode cX6_alikeFrom 28 = .ok (.if_icmp .ne 26, 3) := by decide +kernel
theorem dX6_alikeFrom_31 : decode cX6_alikeFrom 31 = .ok (.aload_n 0, 1) := by decide +kernel
theorem dX6_alikeFrom_32 : decode cX6_alikeFrom 32 = .ok (.getfield 15, 3) := by decide +kernel
theorem dX6_alikeFrom_35 : decode cX6_alikeFrom 35 = .ok (.iload_n 1, 1) := by decide +kernel
theorem dX6_alikeFrom_36 : decode cX6_alikeFrom 36 = .ok (.iload_n 2, 1) := by decide +kernel
theorem dX6_alikeFrom_37 : decode cX6_alikeFrom 37 = .ok (.iadd, 1) := by decide +kernel
theorem dX6_alikeFrom_38 : decode cX6_alikeFrom 38 = .ok (.iaload, 1) := by decide +kernel
theorem dX6_alikeFrom_39 : decode cX6_alikeFrom 39 = .ok (.aload_n 0, 1) := by decide +kernel
theorem dX6_alikeFrom_40 : decode cX6_alikeFrom 40 = .ok (.getfield 15, 3) := by decide +kernel
theorem dX6_alikeFrom_43 : decode cX6_alikeFrom 43 = .ok (.iload_n 1, 1) := by decide +kernel
theorem dX6_alikeFrom_44 : decode cX6_alikeFrom 44 = .ok (.iaload, 1) := by decide +kernel
theorem dX6_alikeFrom_45 : decode cX6_alikeFrom 45 = .ok (.if_icmp .ne 9, 3) := by decide +kernel
theorem dX6_alikeFrom_48 : decode cX6_alikeFrom 48 = .ok (.iinc 2 1, 3) := by decide +kernel
theorem dX6_alikeFrom_51 : decode cX6_alikeFrom 51 = .ok (.goto (-49), 3) := by decide +kernel
theorem dX6_alikeFrom_54 : decode cX6_alikeFrom 54 = .ok (.iload_n 2, 1) := by decide +kernel
theorem dX6_alikeFrom_55 : decode cX6_alikeFrom 55 = .ok (.ireturn, 1) := by decide +kernel
theorem dX6_countKept_0 : decode cX6_countKept 0 = .ok (.iconst 0, 1) := by decide +kernel
theorem dX6_countKept_1 : decode cX6_countKept 1 = .ok (.istore_n 2, 1) := by decide +kernel
theorem dX6_countKept_2 : decode cX6_countKept 2 = .ok (.iload_n 2, 1) := by decide +kernel
theorem dX6_countKept_3 : decode cX6_countKept 3 = .ok (.bipush 120, 2) := by decide +kernel
theorem dX6_countKept_5 : decode cX6_countKept 5 = .ok (.if_icmp .ge 16, 3) := by decide +kernel
theorem dX6_countKept_8 : decode cX6_countKept 8 = .ok (.aload_n 0, 1) := by decide +kernel
theorem dX6_countKept_9 : decode cX6_countKept 9 = .ok (.getfield 18, 3) := by decide +kernel
theorem dX6_countKept_12 : decode cX6_countKept 12 = .ok (.iload_n 2, 1) := by decide +kernel
theorem dX6_countKept_13 : decode cX6_countKept 13 = .ok (.iconst 0, 1) := by decide +kernel
theorem dX6_countKept_14 : decode cX6_countKept 14 = .ok (.bastore, 1) := by decide +kernel
theorem dX6_countKept_15 : decode cX6_countKept 15 = .ok (.iinc 2 1, 3) := by decide +kernel
theorem dX6_countKept_18 : decode cX6_countKept 18 = .ok (.goto (-16), 3) := by decide +kernel
theorem dX6_countKept_21 : decode cX6_countKept 21 = .ok (.iconst 0, 1) := by decide +kernel
theorem dX6_countKept_22 : decode cX6_countKept 22 = .ok (.istore_n 2, 1) := by decide +kernel
theorem dX6_countKept_23 : decode cX6_countKept 23 = .ok (.iconst 0, 1) := by decide +kernel
theorem dX6_countKept_24 : decode cX6_countKept 24 = .ok (.istore_n 3, 1) := by decide +kernel
theorem dX6_countKept_25 : decode cX6_countKept 25 = .ok (.iload_n 3, 1) := by decide +kernel
theorem dX6_countKept_26 : decode cX6_countKept 26 = .ok (.aload_n 0, 1) := by decide +kernel
theorem dX6_countKept_27 : decode cX6_countKept 27 = .ok (.getfield 22, 3) := by decide +kernel
theorem dX6_countKept_30 : decode cX6_countKept 30 = .ok (.if_icmp .ge 61, 3) := by decide +kernel
theorem dX6_countKept_33 : decode cX6_countKept 33 = .ok (.aload_n 0, 1) := by decide +kernel
theorem dX6_countKept_34 : decode cX6_countKept 34 = .ok (.getfield 9, 3) := by decide +kernel
theorem dX6_countKept_37 : decode cX6_countKept 37 = .ok (.iload_n 3, 1) := by decide +kernel
theorem dX6_countKept_38 : decode cX6_countKept 38 = .ok (.iaload, 1) := by decide +kernel
theorem dX6_countKept_39 : decode cX6_countKept 39 = .ok (.istore 4, 2) := by decide +kernel
theorem dX6_countKept_41 : decode cX6_countKept 41 = .ok (.iload 4, 2) := by decide +kernel
theorem dX6_countKept_43 : decode cX6_countKept 43 = .ok (.ifCond .lt 42, 3) := by decide +kernel
theorem dX6_countKept_46 : decode cX6_countKept 46 = .ok (.iload 4, 2) := by decide +kernel
theorem dX6_countKept_48 : decode cX6_countKept 48 = .ok (.bipush 120, 2) := by decide +kernel
theorem dX6_countKept_50 : decode cX6_countKept 50 = .ok (.if_icmp .ge 35, 3) := by decide +kernel
theorem dX6_countKept_53 : decode cX6_countKept 53 = .ok (.aload_n 0, 1) := by decide +kernel
theorem dX6_countKept_54 : decode cX6_countKept 54 = .ok (.getfield 18, 3) := by decide +kernel
theorem dX6_countKept_57 : decode cX6_countKept 57 = .ok (.iload 4, 2) := by decide +kernel
theorem dX6_countKept_59 : decode cX6_countKept 59 = .ok (.baload, 1) := by decide +kernel
theorem dX6_countKept_60 : decode cX6_countKept 60 = .ok (.ifCond .ne 25, 3) := by decide +kernel
theorem dX6_countKept_63 : decode cX6_countKept 63 = .ok (.aload_n 0, 1) := by decide +kernel
theorem dX6_countKept_64 : decode cX6_countKept 64 = .ok (.iload 4, 2) := by decide +kernel
theorem dX6_countKept_66 : decode cX6_countKept 66 = .ok (.iload_n 3, 1) := by decide +kernel
theorem dX6_countKept_67 : decode cX6_countKept 67 = .ok (.iload_n 1, 1) := by decide +kernel
theorem dX6_countKept_68 : decode cX6_countKept 68 = .ok (.invokevirtual 66, 3) := by decide +kernel
theorem dX6_countKept_71 : decode cX6_countKept 71 = .ok (.ifCond .eq 14, 3) := by decide +kernel
theorem dX6_countKept_74 : decode cX6_countKept 74 = .ok (.aload_n 0, 1) := by decide +kernel
theorem dX6_countKept_75 : decode cX6_countKept 75 = .ok (.getfield 18, 3) := by decide +kernel
theorem dX6_countKept_78 : decode cX6_countKept 78 = .ok (.iload 4, 2) := by decide +kernel
theorem dX6_countKept_80 : decode cX6_countKept 80 = .ok (.iconst 1, 1) := by decide +kernel
theorem dX6_countKept_81 : decode cX6_countKept 81 = .ok (.bastore, 1) := by decide +kernel
theorem dX6_countKept_82 : decode cX6_countKept 82 = .ok (.iinc 2 1, 3) := by decide +kernel
theorem dX6_countKept_85 : decode cX6_countKept 85 = .ok (.iinc 3 1, 3) := by decide +kernel
theorem dX6_countKept_88 : decode cX6_countKept 88 = .ok (.goto (-63), 3) := by decide +kernel
theorem dX6_countKept_91 : decode cX6_countKept 91 = .ok (.iload_n 2, 1) := by decide +kernel
theorem dX6_countKept_92 : decode cX6_countKept 92 = .ok (.ireturn, 1) := by decide +kernel
theorem dX6_comesTooLate_0 : decode cX6_comesTooLate 0 = .ok (.iload_n 1, 1) := by decide +kernel
theorem dX6_comesTooLate_1 : decode cX6_comesTooLate 1 = .ok (.iload_n 2, 1) := by decide +kernel
theorem dX6_comesTooLate_2 : decode cX6_comesTooLate 2 = .ok (.if_icmp .ne 18, 3) := by decide +kernel
theorem dX6_comesTooLate_5 : decode cX6_comesTooLate 5 = .ok (.aload_n 0, 1) := by decide +kernel
theorem dX6_comesTooLate_6 : decode cX6_comesTooLate 6 = .ok (.getfield 15, 3) := by decide +kernel
theorem dX6_comesTooLate_9 : decode cX6_comesTooLate 9 = .ok (.iload_n 2, 1) := by decide +kernel
theorem dX6_comesTooLate_10 : decode cX6_comesTooLate 10 = .ok (.iaload, 1) := by decide +kernel
theorem dX6_comesTooLate_11 : decode cX6_comesTooLate 11 = .ok (.ifCond .eq 7, 3) := by decide +kernel
theorem dX6_comesTooLate_14 : decode cX6_comesTooLate 14 = .ok (.iconst 1, 1) := by decide +kernel
theorem dX6_comesTooLate_15 : decode cX6_comesTooLate 15 = .ok (.goto 4, 3) := by decide +kernel
theorem dX6_comesTooLate_18 : decode cX6_comesTooLate 18 = .ok (.iconst 0, 1) := by decide +kernel
theorem dX6_comesTooLate_19 : decode cX6_comesTooLate 19 = .ok (.ireturn, 1) := by decide +kernel
theorem dX6_comesTooLate_20 : decode cX6_comesTooLate 20 = .ok (.iload_n 3, 1) := by decide +kernel
theorem dX6_comesTooLate_21 : decode cX6_comesTooLate 21 = .ok (.ifCond .ne 16, 3) := by decide +kernel
theorem dX6_comesTooLate_24 : decode cX6_comesTooLate 24 = .ok (.iload_n 2, 1) := by decide +kernel
theorem dX6_comesTooLate_25 : decode cX6_comesTooLate 25 = .ok (.iload_n 1, 1) := by decide +kernel
theorem dX6_comesTooLate_26 : decode cX6_comesTooLate 26 = .ok (.if_icmp .le 7, 3) := by decide +kernel
theorem dX6_comesTooLate_29 : decode cX6_comesTooLate 29 = .ok (.iconst 1, 1) := by decide +kernel
theorem dX6_comesTooLate_30 : decode cX6_comesTooLate 30 = .ok (.goto 17, 3) := by decide +kernel
theorem dX6_comesTooLate_33 : decode cX6_comesTooLate 33 = .ok (.iconst 0, 1) := by decide +kernel
theorem dX6_comesTooLate_34 : decode cX6_comesTooLate 34 = .ok (.goto 13, 3) := by decide +kernel
theorem dX6_comesTooLate_37 : decode cX6_comesTooLate 37 = .ok (.iload_n 2, 1) := by decide +kernel
theorem dX6_comesTooLate_38 : decode cX6_comesTooLate 38 = .ok (.iload_n 1, 1) := by decide +kernel
theorem dX6_comesTooLate_39 : decode cX6_comesTooLate 39 = .ok (.if_icmp .ge 7, 3) := by decide +kernel
theorem dX6_comesTooLate_42 : decode cX6_comesTooLate 42 = .ok (.iconst 1, 1) := by decide +kernel
theorem dX6_comesTooLate_43 : decode cX6_comesTooLate 43 = .ok (.goto 4, 3) := by decide +kernel
theorem dX6_comesTooLate_46 : decode cX6_comesTooLate 46 = .ok (.iconst 0, 1) := by decide +kernel
theorem dX6_comesTooLate_47 : decode cX6_comesTooLate 47 = .ok (.ireturn, 1) := by decide +kernel
theorem dX6_isKept_0 : decode cX6_isKept 0 = .ok (.iload_n 1, 1) := by decide +kernel
theorem dX6_isKept_1 : decode cX6_isKept 1 = .ok (.ifCond .lt 22, 3) := by decide +kernel
theorem dX6_isKept_4 : decode cX6_isKept 4 = .ok (.iload_n 1, 1) := by decide +kernel
theorem dX6_isKept_5 : decode cX6_isKept 5 = .ok (.bipush 120, 2) := by decide +kernel
theorem dX6_isKept_7 : decode cX6_isKept 7 = .ok (.if_icmp .ge 16, 3) := by decide +kernel
theorem dX6_isKept_10 : decode cX6_isKept 10 = .ok (.aload_n 0, 1) := by decide +kernel
theorem dX6_isKept_11 : decode cX6_isKept 11 = .ok (.getfield 18, 3) := by decide +kernel
theorem dX6_isKept_14 : decode cX6_isKept 14 = .ok (.iload_n 1, 1) := by decide +kernel
theorem dX6_isKept_15 : decode cX6_isKept 15 = .ok (.baload, 1) := by decide +kernel
theorem dX6_isKept_16 : decode cX6_isKept 16 = .ok (.ifCond .eq 7, 3) := by decide +kernel
theorem dX6_isKept_19 : decode cX6_isKept 19 = .ok (.iconst 1, 1) := by decide +kernel
theorem dX6_isKept_20 : decode cX6_isKept 20 = .ok (.goto 4, 3) := by decide +kernel
theorem dX6_isKept_23 : decode cX6_isKept 23 = .ok (.iconst 0, 1) := by decide +kernel
theorem dX6_isKept_24 : decode cX6_isKept 24 = .ok (.ireturn, 1) := by decide +kernel
theorem dX7_init_0 : decode cX7_init 0 = .ok (.aload_n 0, 1) := by decide +kernel
theorem dX7_init_1 : decode cX7_init 1 = .ok (.invokespecial 3, 3) := by decide +kernel
theorem dX7_init_4 : decode cX7_init 4 = .ok (.aload_n 0, 1) := by decide +kernel
theorem dX7_init_5 : decode cX7_init 5 = .ok (.new 9, 3) := by decide +kernel
theorem dX7_init_8 : decode cX7_init 8 = .ok (.dup, 1) := by decide +kernel
theorem dX7_init_9 : decode cX7_init 9 = .ok (.sipush 200, 3) := by decide +kernel
theorem dX7_init_12 : decode cX7_init 12 = .ok (.invokespecial 11, 3) := by decide +kernel
theorem dX7_init_15 : decode cX7_init 15 = .ok (.putfield 14, 3) := by decide +kernel
theorem dX7_init_18 : decode cX7_init 18 = .ok (.aload_n 0, 1) := by decide +kernel
theorem dX7_init_19 : decode cX7_init 19 = .ok (.new 18, 3) := by decide +kernel
theorem dX7_init_22 : decode cX7_init 22 = .ok (.dup, 1) := by decide +kernel
theorem dX7_init_23 : decode cX7_init 23 = .ok (.invokespecial 20, 3) := by decide +kernel
theorem dX7_init_26 : decode cX7_init 26 = .ok (.putfield 21, 3) := by decide +kernel
theorem dX7_init_29 : decode cX7_init 29 = .ok (.aload_n 0, 1) := by decide +kernel
theorem dX7_init_30 : decode cX7_init 30 = .ok (.new 25, 3) := by decide +kernel
theorem dX7_init_33 : decode cX7_init 33 = .ok (.dup, 1) := by decide +kernel
theorem dX7_init_34 : decode cX7_init 34 = .ok (.invokespecial 27, 3) := by decide +kernel
theorem dX7_init_37 : decode cX7_init 37 = .ok (.putfield 28, 3) := by decide +kernel
theorem dX7_init_40 : decode cX7_init 40 = .ok (.aload_n 0, 1) := by decide +kernel
theorem dX7_init_41 : decode cX7_init 41 = .ok (.new 25, 3) := by decide +kernel
theorem dX7_init_44 : decode cX7_init 44 = .ok (.dup, 1) := by decide +kernel
theorem dX7_init_45 : decode cX7_init 45 = .ok (.invokespecial 27, 3) := by decide +kernel
theorem dX7_init_48 : decode cX7_init 48 = .ok (.putfield 32, 3) := by decide +kernel
theorem dX7_init_51 : decode cX7_init 51 = .ok (.aload_n 0, 1) := by decide +kernel
theorem dX7_init_52 : decode cX7_init 52 = .ok (.new 35, 3) := by decide +kernel
theorem dX7_init_55 : decode cX7_init 55 = .ok (.dup, 1) := by decide +kernel
theorem dX7_init_56 : decode cX7_init 56 = .ok (.invokespecial 37, 3) := by decide +kernel
theorem dX7_init_59 : decode cX7_init 59 = .ok (.putfield 38, 3) := by decide +kernel
theorem dX7_init_62 : decode cX7_init 62 = .ok (.aload_n 0, 1) := by decide +kernel
theorem dX7_init_63 : decode cX7_init 63 = .ok (.new 42, 3) := by decide +kernel
theorem dX7_init_66 : decode cX7_init 66 = .ok (.dup, 1) := by decide +kernel
theorem dX7_init_67 : decode cX7_init 67 = .ok (.invokespecial 44, 3) := by decide +kernel
theorem dX7_init_70 : decode cX7_init 70 = .ok (.putfield 45, 3) := by decide +kernel
theorem dX7_init_73 : decode cX7_init 73 = .ok (.aload_n 0, 1) := by decide +kernel
theorem dX7_init_74 : decode cX7_init 74 = .ok (.new 49, 3) := by decide +kernel
theorem dX7_init_77 : decode cX7_init 77 = .ok (.dup, 1) := by decide +kernel
theorem dX7_init_78 : decode cX7_init 78 = .ok (.invokespecial 51, 3) := by decide +kernel
theorem dX7_init_81 : decode cX7_init 81 = .ok (.putfield 52, 3) := by decide +kernel
theorem dX7_init_84 : decode cX7_init 84 = .ok (.return_, 1) := by decide +kernel
theorem dX7_feed_0 : decode cX7_feed 0 = .ok (.aload_n 0, 1) := by decide +kernel
theorem dX7_feed_1 : decode cX7_feed 1 = .ok (.getfield 14, 3) := by decide +kernel
theorem dX7_feed_4 : decode cX7_feed 4 = .ok (.getfield 56, 3) := by decide +kernel
theorem dX7_feed_7 : decode cX7_feed 7 = .ok (.bipush 20, 2) := by decide +kernel
theorem dX7_feed_9 : decode cX7_feed 9 = .ok (.iadd, 1) := by decide +kernel
theorem dX7_feed_10 : decode cX7_feed 10 = .ok (.sipush 200, 3) := by decide +kernel
theorem dX7_feed_13 : decode cX7_feed 13 = .ok (.if_icmp .le 5, 3) := by decide +kernel
theorem dX7_feed_16 : decode cX7_feed 16 = .ok (.iconst (-1), 1) := by decide +kernel
theorem dX7_feed_17 : decode cX7_feed 17 = .ok (.ireturn, 1) := by decide +kernel
theorem dX7_feed_18 : decode cX7_feed 18 = .ok (.aload_n 0, 1) := by decide +kernel
theorem dX7_feed_19 : decode cX7_feed 19 = .ok (.getfield 14, 3) := by decide +kernel
theorem dX7_feed_22 : decode cX7_feed 22 = .ok (.iload_n 1, 1) := by decide +kernel
theorem dX7_feed_23 : decode cX7_feed 23 = .ok (.invokevirtual 60, 3) := by decide +kernel
theorem dX7_feed_26 : decode cX7_feed 26 = .ok (.aload_n 0, 1) := by decide +kernel
theorem dX7_feed_27 : decode cX7_feed 27 = .ok (.getfield 14, 3) := by decide +kernel
theorem dX7_feed_30 : decode cX7_feed 30 = .ok (.iload_n 2, 1) := by decide +kernel
theorem dX7_feed_31 : decode cX7_feed 31 = .ok (.invokevirtual 60, 3) := by decide +kernel
theorem dX7_feed_34 : decode cX7_feed 34 = .ok (.aload_n 0, 1) := by decide +kernel
theorem dX7_feed_35 : decode cX7_feed 35 = .ok (.getfield 14, 3) := by decide +kernel
theorem dX7_feed_38 : decode cX7_feed 38 = .ok (.iload_n 3, 1) := by decide +kernel
theorem dX7_feed_39 : decode cX7_feed 39 = .ok (.invokevirtual 60, 3) := by decide +kernel
theorem dX7_feed_42 : decode cX7_feed 42 = .ok (.aload_n 0, 1) := by decide +kernel
theorem dX7_feed_43 : decode cX7_feed 43 = .ok (.getfield 14, 3) := by decide +kernel
theorem dX7_feed_46 : decode cX7_feed 46 = .ok (.iload 4, 2) := by decide +kernel
theorem dX7_feed_48 : decode cX7_feed 48 = .ok (.invokevirtual 60, 3) := by decide +kernel
theorem dX7_feed_51 : decode cX7_feed 51 = .ok (.aload_n 0, 1) := by decide +kernel
theorem dX7_feed_52 : decode cX7_feed 52 = .ok (.getfield 14, 3) := by decide +kernel
theorem dX7_feed_55 : decode cX7_feed 55 = .ok (.iload 5, 2) := by decide +kernel
theorem dX7_feed_57 : decode cX7_feed 57 = .ok (.invokevirtual 60, 3) := by decide +kernel
theorem dX7_feed_60 : decode cX7_feed 60 = .ok (.aload_n 0, 1) := by decide +kernel
theorem dX7_feed_61 : decode cX7_feed 61 = .ok (.getfield 14, 3) := by decide +kernel
theorem dX7_feed_64 : decode cX7_feed 64 = .ok (.getfield 56, 3) := by decide +kernel
theorem dX7_feed_67 : decode cX7_feed 67 = .ok (.ireturn, 1) := by decide +kernel
theorem dX7_version_0 : decode cX7_version 0 = .ok (.iload_n 1, 1) := by decide +kernel
theorem dX7_version_1 : decode cX7_version 1 = .ok (.ifCond .lt 30, 3) := by decide +kernel
theorem dX7_version_4 : decode cX7_version 4 = .ok (.iload_n 1, 1) := by decide +kernel
theorem dX7_version_5 : decode cX7_version 5 = .ok (.iconst 5, 1) := by decide +kernel
theorem dX7_version_6 : decode cX7_version 6 = .ok (.if_icmp .ge 25, 3) := by decide +kernel
theorem dX7_version_9 : decode cX7_version 9 = .ok (.iload_n 2, 1) := by decide +kernel
theorem dX7_version_10 : decode cX7_version 10 = .ok (.iconst 1, 1) := by decide +kernel
theorem dX7_version_11 : decode cX7_version 11 = .ok (.if_icmp .lt 20, 3) := by decide +kernel
theorem dX7_version_14 : decode cX7_version 14 = .ok (.iload_n 2, 1) := by decide +kernel
theorem dX7_version_15 : decode cX7_version 15 = .ok (.bipush 120, 2) := by decide +kernel
theorem dX7_version_17 : decode cX7_version 17 = .ok (.if_icmp .gt 14, 3) := by decide +kernel
theorem dX7_version_20 : decode cX7_version 20 = .ok (.iload_n 2, 1) := by decide +kernel
theorem dX7_version_21 : decode cX7_version 21 = .ok (.aload_n 0, 1) := by decide +kernel
theorem dX7_version_22 : decode cX7_version 22 = .ok (.getfield 14, 3) := by decide +kernel
theorem dX7_version_25 : decode cX7_version 25 = .ok (.getfield 56, 3) := by decide +kernel
theorem dX7_version_28 : decode cX7_version 28 = .ok (.if_icmp .le 5, 3) := by decide +kernel
theorem dX7_version_31 : decode cX7_version 31 = .ok (.iconst (-1), 1) := by decide +kernel
theorem dX7_version_32 : decode cX7_version 32 = .ok (.ireturn, 1) := by decide +kernel
theorem dX7_version_33 : decode cX7_version 33 = .ok (.aload_n 0, 1) := by decide +kernel
theorem dX7_version_34 : decode cX7_version 34 = .ok (.getfield 21, 3) := by decide +kernel
theorem dX7_version_37 : decode cX7_version 37 = .ok (.iload_n 1, 1) := by decide +kernel
theorem dX7_version_38 : decode cX7_version 38 = .ok (.aload_n 0, 1) := by decide +kernel
theorem dX7_version_39 : decode cX7_version 39 = .ok (.getfield 14, 3) := by decide +kernel
theorem dX7_version_42 : decode cX7_version 42 = .ok (.iload_n 2, 1) := by decide +kernel
theorem dX7_version_43 : decode cX7_version 43 = .ok (.invokevirtual 63, 3) := by decide +kernel
theorem dX7_version_46 : decode cX7_version 46 = .ok (.aload_n 0, 1) := by decide +kernel
theorem dX7_version_47 : decode cX7_version 47 = .ok (.getfield 14, 3) := by decide +kernel
theorem dX7_version_50 : decode cX7_version 50 = .ok (.iconst 0, 1) := by decide +kernel
theorem dX7_version_51 : decode cX7_version 51 = .ok (.putfield 56, 3) := by decide +kernel
theorem dX7_version_54 : decode cX7_version 54 = .ok (.iload_n 2, 1) := by decide +kernel
theorem dX7_version_55 : decode cX7_version 55 = .ok (.ireturn, 1) := by decide +kernel
theorem dX7_told_0 : decode cX7_told 0 = .ok (.aload_n 0, 1) := by decide +kernel
theorem dX7_told_1 : decode cX7_told 1 = .ok (.getfield 21, 3) := by decide +kernel
theorem dX7_told_4 : decode cX7_told 4 = .ok (.iload_n 1, 1) := by decide +kernel
theorem dX7_told_5 : decode cX7_told 5 = .ok (.invokevirtual 67, 3) := by decide +kernel
theorem dX7_told_8 : decode cX7_told 8 = .ok (.ifCond .ne 5, 3) := by decide +kernel
theorem dX7_told_11 : decode cX7_told 11 = .ok (.iconst (-1), 1) := by decide +kernel
theorem dX7_told_12 : decode cX7_told 12 = .ok (.ireturn, 1) := by decide +kernel
theorem dX7_told_13 : decode cX7_told 13 = .ok (.aload_n 0, 1) := by decide +kernel
theorem dX7_told_14 : decode cX7_told 14 = .ok (.getfield 21, 3) := by decide +kernel
theorem dX7_told_17 : decode cX7_told 17 = .ok (.iload_n 1, 1) := by decide +kernel
theorem dX7_told_18 : decode cX7_told 18 = .ok (.invokevirtual 71, 3) := by decide +kernel
theorem dX7_told_21 : decode cX7_told 21 = .ok (.astore_n 3, 1) := by decide +kernel
theorem dX7_told_22 : decode cX7_told 22 = .ok (.iload_n 2, 1) := by decide +kernel
theorem dX7_told_23 : decode cX7_told 23 = .ok (.iconst (-1), 1) := by decide +kernel
theorem dX7_told_24 : decode cX7_told 24 = .ok (.if_icmp .ne 10, 3) := by decide +kernel
theorem dX7_told_27 : decode cX7_told 27 = .ok (.aload_n 3, 1) := by decide +kernel
theorem dX7_told_28 : decode cX7_told 28 = .ok (.getfield 56, 3) := by decide +kernel
theorem dX7_told_31 : decode cX7_told 31 = .ok (.goto 8, 3) := by decide +kernel
theorem dX7_told_34 : decode cX7_told 34 = .ok (.aload_n 3, 1) := by decide +kernel
theorem dX7_told_35 : decode cX7_told 35 = .ok (.iload_n 2, 1) := by decide +kernel
theorem dX7_told_36 : decode cX7_told 36 = .ok (.invokevirtual 75, 3) := by decide +kernel
theorem dX7_told_39 : decode cX7_told 39 = .ok (.ireturn, 1) := by decide +kernel
theorem dX7_check_0 : decode cX7_check 0 = .ok (.aload_n 0, 1) := by decide +kernel
theorem dX7_check_1 : decode cX7_check 1 = .ok (.getfield 21, 3) := by decide +kernel
theorem dX7_check_4 : decode cX7_check 4 = .ok (.iload_n 1, 1) := by decide +kernel
theorem dX7_check_5 : decode cX7_check 5 = .ok (.invokevirtual 67, 3) := by decide +kernel
theorem dX7_check_8 : decode cX7_check 8 = .ok (.ifCond .eq 17, 3) := by decide +kernel
theorem dX7_check_11 : decode cX7_check 11 = .ok (.aload_n 0, 1) := by decide +kernel
theorem dX7_check_12 : decode cX7_check 12 = .ok (.getfield 21, 3) := by decide +kernel
theorem dX7_check_15 : decode cX7_check 15 = .ok (.iload_n 1, 1) := by decide +kernel
theorem dX7_check_16 : decode cX7_check 16 = .ok (.invokevirtual 71, 3) := by decide +kernel
theorem dX7_check_19 : decode cX7_check 19 = .ok (.invokevirtual 79, 3) := by decide +kernel
theorem dX7_check_22 : decode cX7_check 22 = .ok (.goto 4, 3) := by decide +kernel
theorem dX7_check_25 : decode cX7_check 25 = .ok (.iconst (-1), 1) := by decide +kernel
theorem dX7_check_26 : decode cX7_check 26 = .ok (.ireturn, 1) := by decide +kernel
theorem dX7_cost_0 : decode cX7_cost 0 = .ok (.aload_n 0, 1) := by decide +kernel
theorem dX7_cost_1 : decode cX7_cost 1 = .ok (.getfield 21, 3) := by decide +kernel
theorem dX7_cost_4 : decode cX7_cost 4 = .ok (.iload_n 1, 1) := by decide +kernel
theorem dX7_cost_5 : decode cX7_cost 5 = .ok (.iload_n 2, 1) := by decide +kernel
theorem dX7_cost_6 : decode cX7_cost 6 = .ok (.invokevirtual 83, 3) := by decide +kernel
theorem dX7_cost_9 : decode cX7_cost 9 = .ok (.ireturn, 1) := by decide +kernel
theorem dX7_step_0 : decode cX7_step 0 = .ok (.aload_n 0, 1) := by decide +kernel
theorem dX7_step_1 : decode cX7_step 1 = .ok (.getfield 21, 3) := by decide +kernel
theorem dX7_step_4 : decode cX7_step 4 = .ok (.iload_n 1, 1) := by decide +kernel
theorem dX7_step_5 : decode cX7_step 5 = .ok (.invokevirtual 67, 3) := by decide +kernel
theorem dX7_step_8 : decode cX7_step 8 = .ok (.ifCond .eq 14, 3) := by decide +kernel
theorem dX7_step_11 : decode cX7_step 11 = .ok (.aload_n 0, 1) := by decide +kernel
theorem dX7_step_12 : decode cX7_step 12 = .ok (.getfield 21, 3) := by decide +kernel
theorem dX7_step_15 : decode cX7_step 15 = .ok (.iload_n 2, 1) := by decide +kernel
theorem dX7_step_16 : decode cX7_step 16 = .ok (.invokevirtual 67, 3) := by decide +kernel
theorem dX7_step_19 : decode cX7_step 19 = .ok (.ifCond .ne 5, 3) := by decide +kernel
theorem dX7_step_22 : decode cX7_step 22 = .ok (.iconst (-1), 1) := by decide +kernel
theorem dX7_step_23 : decode cX7_step 23 = .ok (.ireturn, 1) := by decide +kernel
theorem dX7_step_24 : decode cX7_step 24 = .ok (.aload_n 0, 1) := by decide +kernel
theorem dX7_step_25 : decode cX7_step 25 = .ok (.getfield 21, 3) := by decide +kernel
theorem dX7_step_28 : decode cX7_step 28 = .ok (.iload_n 1, 1) := by decide +kernel
theorem dX7_step_29 : decode cX7_step 29 = .ok (.iload_n 2, 1) := by decide +kernel
theorem dX7_step_30 : decode cX7_step 30 = .ok (.invokevirtual 87, 3) := by decide +kernel
theorem dX7_step_33 : decode cX7_step 33 = .ok (.iload_n 3, 1) := by decide +kernel
theorem dX7_step_34 : decode cX7_step 34 = .ok (.iload 4, 2) := by decide +kernel
theorem dX7_step_36 : decode cX7_step 36 = .ok (.invokevirtual 91, 3) := by decide +kernel
theorem dX7_step_39 : decode cX7_step 39 = .ok (.ireturn, 1) := by decide +kernel
theorem dX7_melt_0 : decode cX7_melt 0 = .ok (.aload_n 0, 1) := by decide +kernel
theorem dX7_melt_1 : decode cX7_melt 1 = .ok (.getfield 21, 3) := by decide +kernel
theorem dX7_melt_4 : decode cX7_melt 4 = .ok (.iload_n 1, 1) := by decide +kernel
theorem dX7_melt_5 : decode cX7_melt 5 = .ok (.invokevirtual 67, 3) := by decide +kernel
theorem dX7_melt_8 : decode cX7_melt 8 = .ok (.ifCond .eq 25, 3) := by decide +kernel
theorem dX7_melt_11 : decode cX7_melt 11 = .ok (.aload_n 0, 1) := by decide +kernel
theorem dX7_melt_12 : decode cX7_melt 12 = .ok (.getfield 21, 3) := by decide +kernel
theorem dX7_melt_15 : decode cX7_melt 15 = .ok (.iload_n 2, 1) := by decide +kernel
theorem dX7_melt_16 : decode cX7_melt 16 = .ok (.invokevirtual 67, 3) := by decide +kernel
theorem dX7_melt_19 : decode cX7_melt 19 = .ok (.ifCond .eq 14, 3) := by decide +kernel
theorem dX7_melt_22 : decode cX7_melt 22 = .ok (.aload_n 0, 1) := by decide +kernel
theorem dX7_melt_23 : decode cX7_melt 23 = .ok (.getfield 21, 3) := by decide +kernel
theorem dX7_melt_26 : decode cX7_melt 26 = .ok (.iload_n 3, 1) := by decide +kernel
theorem dX7_melt_27 : decode cX7_melt 27 = .ok (.invokevirtual 67, 3) := by decide +kernel
theorem dX7_melt_30 : decode cX7_melt 30 = .ok (.ifCond .ne 5, 3) := by decide +kernel
theorem dX7_melt_33 : decode cX7_melt 33 = .ok (.iconst (-1), 1) := by decide +kernel
theorem dX7_melt_34 : decode cX7_melt 34 = .ok (.ireturn, 1) := by decide +kernel
theorem dX7_melt_35 : decode cX7_melt 35 = .ok (.aload_n 0, 1) := by decide +kernel
theorem dX7_melt_36 : decode cX7_melt 36 = .ok (.getfield 32, 3) := by decide +kernel
theorem dX7_melt_39 : decode cX7_melt 39 = .ok (.aload_n 0, 1) := by decide +kernel
theorem dX7_melt_40 : decode cX7_melt 40 = .ok (.getfield 21, 3) := by decide +kernel
theorem dX7_melt_43 : decode cX7_melt 43 = .ok (.iload_n 1, 1) := by decide +kernel
theorem dX7_melt_44 : decode cX7_melt 44 = .ok (.iload_n 2, 1) := by decide +kernel
theorem dX7_melt_45 : decode cX7_melt 45 = .ok (.invokevirtual 87, 3) := by decide +kernel
theorem dX7_melt_48 : decode cX7_melt 48 = .ok (.aload_n 0, 1) := by decide +kernel
theorem dX7_melt_49 : decode cX7_melt 49 = .ok (.getfield 21, 3) := by decide +kernel
theorem dX7_melt_52 : decode cX7_melt 52 = .ok (.iload_n 2, 1) := by decide +kernel
theorem dX7_melt_53 : decode cX7_melt 53 = .ok (.invokevirtual 71, 3) := by decide +kernel
theorem dX7_melt_56 : decode cX7_melt 56 = .ok (.invokevirtual 94, 3) := by decide +kernel
theorem dX7_melt_59 : decode cX7_melt 59 = .ok (.aload_n 0, 1) := by decide +kernel
theorem dX7_melt_60 : decode cX7_melt 60 = .ok (.getfield 28, 3) := by decide +kernel
theorem dX7_melt_63 : decode cX7_melt 63 = .ok (.aload_n 0, 1) := by decide +kernel
theorem dX7_melt_64 : decode cX7_melt 64 = .ok (.getfield 21, 3) := by decide +kernel
theorem dX7_melt_67 : decode cX7_melt 67 = .ok (.iload_n 2, 1) := by decide +kernel
theorem dX7_melt_68 : decode cX7_melt 68 = .ok (.iload_n 3, 1) := by decide +kernel
theorem dX7_melt_69 : decode cX7_melt 69 = .ok (.invokevirtual 87, 3) := by decide +kernel
theorem dX7_melt_72 : decode cX7_melt 72 = .ok (.aload_n 0, 1) := by decide +kernel
theorem dX7_melt_73 : decode cX7_melt 73 = .ok (.getfield 21, 3) := by decide +kernel
theorem dX7_melt_76 : decode cX7_melt 76 = .ok (.iload_n 3, 1) := by decide +kernel
theorem dX7_melt_77 : decode cX7_melt 77 = .ok (.invokevirtual 71, 3) := by decide +kernel
theorem dX7_melt_80 : decode cX7_melt 80 = .ok (.invokevirtual 94, 3) := by decide +kernel
theorem dX7_melt_83 : decode cX7_melt 83 = .ok (.aload_n 0, 1) := by decide +kernel
theorem dX7_melt_84 : decode cX7_melt 84 = .ok (.getfield 28, 3) := by decide +kernel
theorem dX7_melt_87 : decode cX7_melt 87 = .ok (.aload_n 0, 1) := by decide +kernel
theorem dX7_melt_88 : decode cX7_melt 88 = .ok (.getfield 32, 3) := by decide +kernel
theorem dX7_melt_91 : decode cX7_melt 91 = .ok (.invokevirtual 98, 3) := by decide +kernel
theorem dX7_melt_94 : decode cX7_melt 94 = .ok (.aload_n 0, 1) := by decide +kernel
theorem dX7_melt_95 : decode cX7_melt 95 = .ok (.getfield 28, 3) := by decide +kernel
theorem dX7_melt_98 : decode cX7_melt 98 = .ok (.aload_n 0, 1) := by decide +kernel
theorem dX7_melt_99 : decode cX7_melt 99 = .ok (.getfield 38, 3) := by decide +kernel
theorem dX7_melt_102 : decode cX7_melt 102 = .ok (.invokevirtual 102, 3) := by decide +kernel
theorem dX7_melt_105 : decode cX7_melt 105 = .ok (.aload_n 0, 1) := by decide +kernel
theorem dX7_melt_106 : decode cX7_melt 106 = .ok (.getfield 38, 3) := by decide +kernel
theorem dX7_melt_109 : decode cX7_melt 109 = .ok (.getfield 106, 3) := by decide +kernel
theorem dX7_melt_112 : decode cX7_melt 112 = .ok (.ireturn, 1) := by decide +kernel
theorem dX7_melted_0 : decode cX7_melted 0 = .ok (.aload_n 0, 1) := by decide +kernel
theorem dX7_melted_1 : decode cX7_melted 1 = .ok (.getfield 38, 3) := by decide +kernel
theorem dX7_melted_4 : decode cX7_melted 4 = .ok (.getfield 109, 3) := by decide +kernel
theorem dX7_melted_7 : decode cX7_melted 7 = .ok (.ifCond .ne 7, 3) := by decide +kernel
theorem dX7_melted_10 : decode cX7_melted 10 = .ok (.iconst (-1), 1) := by decide +kernel
theorem dX7_melted_11 : decode cX7_melted 11 = .ok (.goto 12, 3) := by decide +kernel
theorem dX7_melted_14 : decode cX7_melted 14 = .ok (.aload_n 0, 1) := by decide +kernel
theorem dX7_melted_15 : decode cX7_melted 15 = .ok (.getfield 38, 3) := by decide +kernel
theorem dX7_melted_18 : decode cX7_melted 18 = .ok (.iload_n 1, 1) := by decide +kernel
theorem dX7_melted_19 : decode cX7_melted 19 = .ok (.iload_n 2, 1) := by decide +kernel
theorem dX7_melted_20 : decode cX7_melted 20 = .ok (.invokevirtual 91, 3) := by decide +kernel
theorem dX7_melted_23 : decode cX7_melted 23 = .ok (.ireturn, 1) := by decide +kernel
theorem dX7_room_0 : decode cX7_room 0 = .ok (.aload_n 0, 1) := by decide +kernel
theorem dX7_room_1 : decode cX7_room 1 = .ok (.getfield 21, 3) := by decide +kernel
theorem dX7_room_4 : decode cX7_room 4 = .ok (.iload_n 1, 1) := by decide +kernel
theorem dX7_room_5 : decode cX7_room 5 = .ok (.invokevirtual 67, 3) := by decide +kernel
theorem dX7_room_8 : decode cX7_room 8 = .ok (.ifCond .eq 23, 3) := by decide +kernel
theorem dX7_room_11 : decode cX7_room 11 = .ok (.aload_n 0, 1) := by decide +kernel
theorem dX7_room_12 : decode cX7_room 12 = .ok (.getfield 21, 3) := by decide +kernel
theorem dX7_room_15 : decode cX7_room 15 = .ok (.iload_n 2, 1) := by decide +kernel
theorem dX7_room_16 : decode cX7_room 16 = .ok (.invokevirtual 67, 3) := by decide +kernel
theorem dX7_room_19 : decode cX7_room 19 = .ok (.ifCond .eq 12, 3) := by decide +kernel
theorem dX7_room_22 : decode cX7_room 22 = .ok (.iload_n 3, 1) := by decide +kernel
theorem dX7_room_23 : decode cX7_room 23 = .ok (.ifCond .lt 8, 3) := by decide +kernel
theorem dX7_room_26 : decode cX7_room 26 = .ok (.iload_n 3, 1) := by decide +kernel
theorem dX7_room_27 : decode cX7_room 27 = .ok (.iconst 2, 1) := by decide +kernel
theorem dX7_room_28 : decode cX7_room 28 = .ok (.if_icmp .le 5, 3) := by decide +kernel
theorem dX7_room_31 : decode cX7_room 31 = .ok (.iconst (-1), 1) := by decide +kernel
theorem dX7_room_32 : decode cX7_room 32 = .ok (.ireturn, 1) := by decide +kernel
theorem dX7_room_33 : decode cX7_room 33 = .ok (.aload_n 0, 1) := by decide +kernel
theorem dX7_room_34 : decode cX7_room 34 = .ok (.getfield 28, 3) := by decide +kernel
theorem dX7_room_37 : decode cX7_room 37 = .ok (.aload_n 0, 1) := by decide +kernel
theorem dX7_room_38 : decode cX7_room 38 = .ok (.getfield 21, 3) := by decide +kernel
theorem dX7_room_41 : decode cX7_room 41 = .ok (.iload_n 1, 1) := by decide +kernel
theorem dX7_room_42 : decode cX7_room 42 = .ok (.iload_n 2, 1) := by decide +kernel
theorem dX7_room_43 : decode cX7_room 43 = .ok (.invokevirtual 87, 3) := by decide +kernel
theorem dX7_room_46 : decode cX7_room 46 = .ok (.aload_n 0, 1) := by decide +kernel
theorem dX7_room_47 : decode cX7_room 47 = .ok (.getfield 21, 3) := by decide +kernel
theorem dX7_room_50 : decode cX7_room 50 = .ok (.iload_n 2, 1) := by decide +kernel
theorem dX7_room_51 : decode cX7_room 51 = .ok (.invokevirtual 71, 3) := by decide +kernel
theorem dX7_room_54 : decode cX7_room 54 = .ok (.invokevirtual 94, 3) := by decide +kernel
theorem dX7_room_57 : decode cX7_room 57 = .ok (.iload_n 3, 1) := by decide +kernel
theorem dX7_room_58 : decode cX7_room 58 = .ok (.iconst 2, 1) := by decide +kernel
theorem dX7_room_59 : decode cX7_room 59 = .ok (.if_icmp .ne 23, 3) := by decide +kernel
theorem dX7_room_62 : decode cX7_room 62 = .ok (.aload_n 0, 1) := by decide +kernel
theorem dX7_room_63 : decode cX7_room 63 = .ok (.getfield 28, 3) := by decide +kernel
theorem dX7_room_66 : decode cX7_room 66 = .ok (.iconst 0, 1) := by decide +kernel
theorem dX7_room_67 : decode cX7_room 67 = .ok (.invokevirtual 112, 3) := by decide +kernel
theorem dX7_room_70 : decode cX7_room 70 = .ok (.aload_n 0, 1) := by decide +kernel
theorem dX7_room_71 : decode cX7_room 71 = .ok (.getfield 28, 3) := by decide +kernel
theorem dX7_room_74 : decode cX7_room 74 = .ok (.iconst 1, 1) := by decide +kernel
theorem dX7_room_75 : decode cX7_room 75 = .ok (.invokevirtual 112, 3) := by decide +kernel
theorem dX7_room_78 : decode cX7_room 78 = .ok (.invokestatic 115, 3) := by decide +kernel
theorem dX7_room_81 : decode cX7_room 81 = .ok (.ireturn, 1) := by decide +kernel
theorem dX7_room_82 : decode cX7_room 82 = .ok (.aload_n 0, 1) := by decide +kernel
theorem dX7_room_83 : decode cX7_room 83 = .ok (.getfield 28, 3) := by decide +kernel
theorem dX7_room_86 : decode cX7_room 86 = .ok (.iload_n 3, 1) := by decide +kernel
theorem dX7_room_87 : decode cX7_room 87 = .ok (.invokevirtual 112, 3) := by decide +kernel
theorem dX7_room_90 : decode cX7_room 90 = .ok (.ireturn, 1) := by decide +kernel
theorem dX7_install_0 : decode cX7_install 0 = .ok (.aload_n 0, 1) := by decide +kernel
theorem dX7_install_1 : decode cX7_install 1 = .ok (.getfield 21, 3) := by decide +kernel
theorem dX7_install_4 : decode cX7_install 4 = .ok (.iload_n 1, 1) := by decide +kernel
theorem dX7_install_5 : decode cX7_install 5 = .ok (.invokevirtual 67, 3) := by decide +kernel
theorem dX7_install_8 : decode cX7_install 8 = .ok (.ifCond .ne 5, 3) := by decide +kernel
theorem dX7_install_11 : decode cX7_install 11 = .ok (.iconst 0, 1) := by decide +kernel
theorem dX7_install_12 : decode cX7_install 12 = .ok (.ireturn, 1) := by decide +kernel
theorem dX7_install_13 : decode cX7_install 13 = .ok (.aload_n 0, 1) := by decide +kernel
theorem dX7_install_14 : decode cX7_install 14 = .ok (.getfield 45, 3) := by decide +kernel
theorem dX7_install_17 : decode cX7_install 17 = .ok (.aload_n 0, 1) := by decide +kernel
theorem dX7_install_18 : decode cX7_install 18 = .ok (.getfield 21, 3) := by decide +kernel
theorem dX7_install_21 : decode cX7_install 21 = .ok (.iload_n 1, 1) := by decide +kernel
theorem dX7_install_22 : decode cX7_install 22 = .ok (.invokevirtual 71, 3) := by decide +kernel
theorem dX7_install_25 : decode cX7_install 25 = .ok (.invokevirtual 120, 3) := by decide +kernel
theorem dX7_install_28 : decode cX7_install 28 = .ok (.iconst 1, 1) := by decide +kernel
theorem dX7_install_29 : decode cX7_install 29 = .ok (.ireturn, 1) := by decide +kernel
theorem dX7_update_0 : decode cX7_update 0 = .ok (.aload_n 0, 1) := by decide +kernel
theorem dX7_update_1 : decode cX7_update 1 = .ok (.getfield 21, 3) := by decide +kernel
theorem dX7_update_4 : decode cX7_update 4 = .ok (.iload_n 1, 1) := by decide +kernel
theorem dX7_update_5 : decode cX7_update 5 = .ok (.invokevirtual 67, 3) := by decide +kernel
theorem dX7_update_8 : decode cX7_update 8 = .ok (.ifCond .eq 14, 3) := by decide +kernel
theorem dX7_update_11 : decode cX7_update 11 = .ok (.aload_n 0, 1) := by decide +kernel
theorem dX7_update_12 : decode cX7_update 12 = .ok (.getfield 21, 3) := by decide +kernel
theorem dX7_update_15 : decode cX7_update 15 = .ok (.iload_n 2, 1) := by decide +kernel
theorem dX7_update_16 : decode cX7_update 16 = .ok (.invokevirtual 67, 3) := by decide +kernel
theorem dX7_update_19 : decode cX7_update 19 = .ok (.ifCond .ne 5, 3) := by decide +kernel
theorem dX7_update_22 : decode cX7_update 22 = .ok (.iconst (-1), 1) := by decide +kernel
theorem dX7_update_23 : decode cX7_update 23 = .ok (.ireturn, 1) := by decide +kernel
theorem dX7_update_24 : decode cX7_update 24 = .ok (.aload_n 0, 1) := by decide +kernel
theorem dX7_update_25 : decode cX7_update 25 = .ok (.getfield 45, 3) := by decide +kernel
theorem dX7_update_28 : decode cX7_update 28 = .ok (.getfield 124, 3) := by decide +kernel
theorem dX7_update_31 : decode cX7_update 31 = .ok (.ifCond .eq 6, 3) := by decide +kernel
theorem dX7_update_34 : decode cX7_update 34 = .ok (.bipush (-2), 2) := by decide +kernel
theorem dX7_update_36 : decode cX7_update 36 = .ok (.ireturn, 1) := by decide +kernel
theorem dX7_update_37 : decode cX7_update 37 = .ok (.aload_n 0, 1) := by decide +kernel
theorem dX7_update_38 : decode cX7_update 38 = .ok (.getfield 45, 3) := by decide +kernel
theorem dX7_update_41 : decode cX7_update 41 = .ok (.aload_n 0, 1) := by decide +kernel
theorem dX7_update_42 : decode cX7_update 42 = .ok (.getfield 21, 3) := by decide +kernel
theorem dX7_update_45 : decode cX7_update 45 = .ok (.iload_n 1, 1) := by decide +kernel
theorem dX7_update_46 : decode cX7_update 46 = .ok (.invokevirtual 71, 3) := by decide +kernel
theorem dX7_update_49 : decode cX7_update 49 = .ok (.invokevirtual 128, 3) := by decide +kernel
theorem dX7_update_52 : decode cX7_update 52 = .ok (.ifCond .ne 6, 3) := by decide +kernel
theorem dX7_update_55 : decode cX7_update 55 = .ok (.bipush (-3), 2) := by decide +kernel
theorem dX7_update_57 : decode cX7_update 57 = .ok (.ireturn, 1) := by decide +kernel
theorem dX7_update_58 : decode cX7_update 58 = .ok (.aload_n 0, 1) := by decide +kernel
theorem dX7_update_59 : decode cX7_update 59 = .ok (.getfield 28, 3) := by decide +kernel
theorem dX7_update_62 : decode cX7_update 62 = .ok (.aload_n 0, 1) := by decide +kernel
theorem dX7_update_63 : decode cX7_update 63 = .ok (.getfield 21, 3) := by decide +kernel
theorem dX7_update_66 : decode cX7_update 66 = .ok (.iload_n 1, 1) := by decide +kernel
theorem dX7_update_67 : decode cX7_update 67 = .ok (.iload_n 2, 1) := by decide +kernel
theorem dX7_update_68 : decode cX7_update 68 = .ok (.invokevirtual 87, 3) := by decide +kernel
theorem dX7_update_71 : decode cX7_update 71 = .ok (.aload_n 0, 1) := by decide +kernel
theorem dX7_update_72 : decode cX7_update 72 = .ok (.getfield 21, 3) := by decide +kernel
theorem dX7_update_75 : decode cX7_update 75 = .ok (.iload_n 2, 1) := by decide +kernel
theorem dX7_update_76 : decode cX7_update 76 = .ok (.invokevirtual 71, 3) := by decide +kernel
theorem dX7_update_79 : decode cX7_update 79 = .ok (.invokevirtual 94, 3) := by decide +kernel
theorem dX7_update_82 : decode cX7_update 82 = .ok (.aload_n 0, 1) := by decide +kernel
theorem dX7_update_83 : decode cX7_update 83 = .ok (.getfield 45, 3) := by decide +kernel
theorem dX7_update_86 : decode cX7_update 86 = .ok (.aload_n 0, 1) := by decide +kernel
theorem dX7_update_87 : decode cX7_update 87 = .ok (.getfield 28, 3) := by decide +kernel
theorem dX7_update_90 : decode cX7_update 90 = .ok (.invokevirtual 132, 3) := by decide +kernel
theorem dX7_update_93 : decode cX7_update 93 = .ok (.aload_n 0, 1) := by decide +kernel
theorem dX7_update_94 : decode cX7_update 94 = .ok (.getfield 45, 3) := by decide +kernel
theorem dX7_update_97 : decode cX7_update 97 = .ok (.invokevirtual 135, 3) := by decide +kernel
theorem dX7_update_100 : decode cX7_update 100 = .ok (.ireturn, 1) := by decide +kernel
theorem dX7_write_0 : decode cX7_write 0 = .ok (.iload_n 1, 1) := by decide +kernel
theorem dX7_write_1 : decode cX7_write 1 = .ok (.ifCond .lt 10, 3) := by decide +kernel
theorem dX7_write_4 : decode cX7_write 4 = .ok (.iload_n 1, 1) := by decide +kernel
theorem dX7_write_5 : decode cX7_write 5 = .ok (.sipush 1000, 3) := by decide +kernel
theorem dX7_write_8 : decode cX7_write 8 = .ok (.if_icmp .le 5, 3) := by decide +kernel
theorem dX7_write_11 : decode cX7_write 11 = .ok (.iconst (-1), 1) := by decide +kernel
theorem dX7_write_12 : decode cX7_write 12 = .ok (.ireturn, 1) := by decide +kernel
theorem dX7_write_13 : decode cX7_write 13 = .ok (.aload_n 0, 1) := by decide +kernel
theorem dX7_write_14 : decode cX7_write 14 = .ok (.getfield 45, 3) := by decide +kernel
theorem dX7_write_17 : decode cX7_write 17 = .ok (.getfield 124, 3) := by decide +kernel
theorem dX7_write_20 : decode cX7_write 20 = .ok (.ifCond .eq 13, 3) := by decide +kernel
theorem dX7_write_23 : decode cX7_write 23 = .ok (.aload_n 0, 1) := by decide +kernel
theorem dX7_write_24 : decode cX7_write 24 = .ok (.getfield 45, 3) := by decide +kernel
theorem dX7_write_27 : decode cX7_write 27 = .ok (.getfield 138, 3) := by decide +kernel
theorem dX7_write_30 : decode cX7_write 30 = .ok (.ifCond .eq 6, 3) := by decide +kernel
theorem dX7_write_33 : decode cX7_write 33 = .ok (.bipush (-2), 2) := by decide +kernel
theorem dX7_write_35 : decode cX7_write 35 = .ok (.ireturn, 1) := by decide +kernel
theorem dX7_write_36 : decode cX7_write 36 = .ok (.aload_n 0, 1) := by decide +kernel
theorem dX7_write_37 : decode cX7_write 37 = .ok (.getfield 45, 3) := by decide +kernel
theorem dX7_write_40 : decode cX7_write 40 = .ok (.iload_n 1, 1) := by decide +kernel
theorem dX7_write_41 : decode cX7_write 41 = .ok (.invokevirtual 141, 3) := by decide +kernel
theorem dX7_write_44 : decode cX7_write 44 = .ok (.ireturn, 1) := by decide +kernel
theorem dX7_cut_0 : decode cX7_cut 0 = .ok (.aload_n 0, 1) := by decide +kernel
theorem dX7_cut_1 : decode cX7_cut 1 = .ok (.getfield 45, 3) := by decide +kernel
theorem dX7_cut_4 : decode cX7_cut 4 = .ok (.getfield 124, 3) := by decide +kernel
theorem dX7_cut_7 : decode cX7_cut 7 = .ok (.ifCond .eq 13, 3) := by decide +kernel
theorem dX7_cut_10 : decode cX7_cut 10 = .ok (.aload_n 0, 1) := by decide +kernel
theorem dX7_cut_11 : decode cX7_cut 11 = .ok (.getfield 45, 3) := by decide +kernel
theorem dX7_cut_14 : decode cX7_cut 14 = .ok (.getfield 138, 3) := by decide +kernel
theorem dX7_cut_17 : decode cX7_cut 17 = .ok (.ifCond .eq 5, 3) := by decide +kernel
theorem dX7_cut_20 : decode cX7_cut 20 = .ok (.iconst 0, 1) := by decide +kernel
theorem dX7_cut_21 : decode cX7_cut 21 = .ok (.ireturn, 1) := by decide +kernel
theorem dX7_cut_22 : decode cX7_cut 22 = .ok (.aload_n 0, 1) := by decide +kernel
theorem dX7_cut_23 : decode cX7_cut 23 = .ok (.getfield 45, 3) := by decide +kernel
theorem dX7_cut_26 : decode cX7_cut 26 = .ok (.iconst 1, 1) := by decide +kernel
theorem dX7_cut_27 : decode cX7_cut 27 = .ok (.putfield 138, 3) := by decide +kernel
theorem dX7_cut_30 : decode cX7_cut 30 = .ok (.iconst 1, 1) := by decide +kernel
theorem dX7_cut_31 : decode cX7_cut 31 = .ok (.ireturn, 1) := by decide +kernel
theorem dX7_on_0 : decode cX7_on 0 = .ok (.aload_n 0, 1) := by decide +kernel
theorem dX7_on_1 : decode cX7_on 1 = .ok (.getfield 45, 3) := by decide +kernel
theorem dX7_on_4 : decode cX7_on 4 = .ok (.getfield 138, 3) := by decide +kernel
theorem dX7_on_7 : decode cX7_on 7 = .ok (.ifCond .ne 6, 3) := by decide +kernel
theorem dX7_on_10 : decode cX7_on 10 = .ok (.bipush (-2), 2) := by decide +kernel
theorem dX7_on_12 : decode cX7_on 12 = .ok (.ireturn, 1) := by decide +kernel
theorem dX7_on_13 : decode cX7_on 13 = .ok (.aload_n 0, 1) := by decide +kernel
theorem dX7_on_14 : decode cX7_on 14 = .ok (.getfield 45, 3) := by decide +kernel
theorem dX7_on_17 : decode cX7_on 17 = .ok (.invokevirtual 144, 3) := by decide +kernel
theorem dX7_on_20 : decode cX7_on 20 = .ok (.aload_n 0, 1) := by decide +kernel
theorem dX7_on_21 : decode cX7_on 21 = .ok (.getfield 45, 3) := by decide +kernel
theorem dX7_on_24 : decode cX7_on 24 = .ok (.invokevirtual 135, 3) := by decide +kernel
theorem dX7_on_27 : decode cX7_on 27 = .ok (.ireturn, 1) := by decide +kernel
theorem dX7_device_0 : decode cX7_device 0 = .ok (.iload_n 1, 1) := by decide +kernel
theorem dX7_device_1 : decode cX7_device 1 = .ok (.bipush 10, 2) := by decide +kernel
theorem dX7_device_3 : decode cX7_device 3 = .ok (.if_icmp .ge 14, 3) := by decide +kernel
theorem dX7_device_6 : decode cX7_device 6 = .ok (.aload_n 0, 1) := by decide +kernel
theorem dX7_device_7 : decode cX7_device 7 = .ok (.getfield 45, 3) := by decide +kernel
theorem dX7_device_10 : decode cX7_device 10 = .ok (.iload_n 1, 1) := by decide +kernel
theorem dX7_device_11 : decode cX7_device 11 = .ok (.invokevirtual 147, 3) := by decide +kernel
theorem dX7_device_14 : decode cX7_device 14 = .ok (.goto 14, 3) := by decide +kernel
theorem dX7_device_17 : decode cX7_device 17 = .ok (.aload_n 0, 1) := by decide +kernel
theorem dX7_device_18 : decode cX7_device 18 = .ok (.getfield 45, 3) := by decide +kernel
theorem dX7_device_21 : decode cX7_device 21 = .ok (.iload_n 1, 1) := by decide +kernel
theorem dX7_device_22 : decode cX7_device 22 = .ok (.bipush 10, 2) := by decide +kernel
theorem dX7_device_24 : decode cX7_device 24 = .ok (.isub, 1) := by decide +kernel
theorem dX7_device_25 : decode cX7_device 25 = .ok (.invokevirtual 149, 3) := by decide +kernel
theorem dX7_device_28 : decode cX7_device 28 = .ok (.ireturn, 1) := by decide +kernel
theorem dX7_fleet_0 : decode cX7_fleet 0 = .ok (.aload_n 0, 1) := by decide +kernel
theorem dX7_fleet_1 : decode cX7_fleet 1 = .ok (.getfield 21, 3) := by decide +kernel
theorem dX7_fleet_4 : decode cX7_fleet 4 = .ok (.iload_n 1, 1) := by decide +kernel
theorem dX7_fleet_5 : decode cX7_fleet 5 = .ok (.invokevirtual 67, 3) := by decide +kernel
theorem dX7_fleet_8 : decode cX7_fleet 8 = .ok (.ifCond .eq 14, 3) := by decide +kernel
theorem dX7_fleet_11 : decode cX7_fleet 11 = .ok (.iload_n 2, 1) := by decide +kernel
theorem dX7_fleet_12 : decode cX7_fleet 12 = .ok (.ifCond .lt 10, 3) := by decide +kernel
theorem dX7_fleet_15 : decode cX7_fleet 15 = .ok (.iload_n 2, 1) := by decide +kernel
theorem dX7_fleet_16 : decode cX7_fleet 16 = .ok (.sipush 1000, 3) := by decide +kernel
theorem dX7_fleet_19 : decode cX7_fleet 19 = .ok (.if_icmp .le 5, 3) := by decide +kernel
theorem dX7_fleet_22 : decode cX7_fleet 22 = .ok (.iconst 0, 1) := by decide +kernel
theorem dX7_fleet_23 : decode cX7_fleet 23 = .ok (.ireturn, 1) := by decide +kernel
theorem dX7_fleet_24 : decode cX7_fleet 24 = .ok (.aload_n 0, 1) := by decide +kernel
theorem dX7_fleet_25 : decode cX7_fleet 25 = .ok (.getfield 52, 3) := by decide +kernel
theorem dX7_fleet_28 : decode cX7_fleet 28 = .ok (.iload_n 1, 1) := by decide +kernel
theorem dX7_fleet_29 : decode cX7_fleet 29 = .ok (.iload_n 2, 1) := by decide +kernel
theorem dX7_fleet_30 : decode cX7_fleet 30 = .ok (.invokevirtual 152, 3) := by decide +kernel
theorem dX7_fleet_33 : decode cX7_fleet 33 = .ok (.iconst 1, 1) := by decide +kernel
theorem dX7_fleet_34 : decode cX7_fleet 34 = .ok (.ireturn, 1) := by decide +kernel
theorem dX7_hold_0 : decode cX7_hold 0 = .ok (.aload_n 0, 1) := by decide +kernel
theorem dX7_hold_1 : decode cX7_hold 1 = .ok (.getfield 21, 3) := by decide +kernel
theorem dX7_hold_4 : decode cX7_hold 4 = .ok (.iload_n 1, 1) := by decide +kernel
theorem dX7_hold_5 : decode cX7_hold 5 = .ok (.invokevirtual 67, 3) := by decide +kernel
theorem dX7_hold_8 : decode cX7_hold 8 = .ok (.ifCond .eq 19, 3) := by decide +kernel
theorem dX7_hold_11 : decode cX7_hold 11 = .ok (.aload_n 0, 1) := by decide +kernel
theorem dX7_hold_12 : decode cX7_hold 12 = .ok (.getfield 21, 3) := by decide +kernel
theorem dX7_hold_15 : decode cX7_hold 15 = .ok (.iload_n 2, 1) := by decide +kernel
theorem dX7_hold_16 : decode cX7_hold 16 = .ok (.invokevirtual 67, 3) := by decide +kernel
theorem dX7_hold_19 : decode cX7_hold 19 = .ok (.ifCond .eq 8, 3) := by decide +kernel
theorem dX7_hold_22 : decode cX7_hold 22 = .ok (.iload_n 1, 1) := by decide +kernel
theorem dX7_hold_23 : decode cX7_hold 23 = .ok (.iload_n 2, 1) := by decide +kernel
theorem dX7_hold_24 : decode cX7_hold 24 = .ok (.if_icmp .lt 5, 3) := by decide +kernel
theorem dX7_hold_27 : decode cX7_hold 27 = .ok (.iconst 0, 1) := by decide +kernel
theorem dX7_hold_28 : decode cX7_hold 28 = .ok (.ireturn, 1) := by decide +kernel
theorem dX7_hold_29 : decode cX7_hold 29 = .ok (.aload_n 0, 1) := by decide +kernel
theorem dX7_hold_30 : decode cX7_hold 30 = .ok (.getfield 52, 3) := by decide +kernel
theorem dX7_hold_33 : decode cX7_hold 33 = .ok (.iload_n 1, 1) := by decide +kernel
theorem dX7_hold_34 : decode cX7_hold 34 = .ok (.iload_n 2, 1) := by decide +kernel
theorem dX7_hold_35 : decode cX7_hold 35 = .ok (.iload_n 3, 1) := by decide +kernel
theorem dX7_hold_36 : decode cX7_hold 36 = .ok (.invokevirtual 156, 3) := by decide +kernel
theorem dX7_hold_39 : decode cX7_hold 39 = .ok (.ireturn, 1) := by decide +kernel
theorem dX7_sent_0 : decode cX7_sent 0 = .ok (.aload_n 0, 1) := by decide +kernel
theorem dX7_sent_1 : decode cX7_sent 1 = .ok (.getfield 21, 3) := by decide +kernel
theorem dX7_sent_4 : decode cX7_sent 4 = .ok (.invokevirtual 160, 3) := by decide +kernel
theorem dX7_sent_7 : decode cX7_sent 7 = .ok (.iconst (-1), 1) := by decide +kernel
theorem dX7_sent_8 : decode cX7_sent 8 = .ok (.if_icmp .ne 5, 3) := by decide +kernel
theorem dX7_sent_11 : decode cX7_sent 11 = .ok (.iconst (-1), 1) := by decide +kernel
theorem dX7_sent_12 : decode cX7_sent 12 = .ok (.ireturn, 1) := by decide +kernel
theorem dX7_sent_13 : decode cX7_sent 13 = .ok (.aload_n 0, 1) := by decide +kernel
theorem dX7_sent_14 : decode cX7_sent 14 = .ok (.getfield 52, 3) := by decide +kernel
theorem dX7_sent_17 : decode cX7_sent 17 = .ok (.aload_n 0, 1) := by decide +kernel
theorem dX7_sent_18 : decode cX7_sent 18 = .ok (.getfield 21, 3) := by decide +kernel
theorem dX7_sent_21 : decode cX7_sent 21 = .ok (.aload_n 0, 1) := by decide +kernel
theorem dX7_sent_22 : decode cX7_sent 22 = .ok (.getfield 52, 3) := by decide +kernel
theorem dX7_sent_25 : decode cX7_sent 25 = .ok (.getfield 163, 3) := by decide +kernel
theorem dX7_sent_28 : decode cX7_sent 28 = .ok (.invokevirtual 166, 3) := by decide +kernel
theorem dX7_sent_31 : decode cX7_sent 31 = .ok (.aload_n 0, 1) := by decide +kernel
theorem dX7_sent_32 : decode cX7_sent 32 = .ok (.getfield 52, 3) := by decide +kernel
theorem dX7_sent_35 : decode cX7_sent 35 = .ok (.aload_n 0, 1) := by decide +kernel
theorem dX7_sent_36 : decode cX7_sent 36 = .ok (.getfield 52, 3) := by decide +kernel
theorem dX7_sent_39 : decode cX7_sent 39 = .ok (.getfield 163, 3) := by decide +kernel
theorem dX7_sent_42 : decode cX7_sent 42 = .ok (.invokevirtual 170, 3) := by decide +kernel
theorem dX7_sent_45 : decode cX7_sent 45 = .ok (.ireturn, 1) := by decide +kernel
theorem dX7_best_0 : decode cX7_best 0 = .ok (.iload_n 1, 1) := by decide +kernel
theorem dX7_best_1 : decode cX7_best 1 = .ok (.ifCond .lt 28, 3) := by decide +kernel
theorem dX7_best_4 : decode cX7_best 4 = .ok (.iload_n 1, 1) := by decide +kernel
theorem dX7_best_5 : decode cX7_best 5 = .ok (.iconst 3, 1) := by decide +kernel
theorem dX7_best_6 : decode cX7_best 6 = .ok (.if_icmp .gt 23, 3) := by decide +kernel
theorem dX7_best_9 : decode cX7_best 9 = .ok (.iload_n 2, 1) := by decide +kernel
theorem dX7_best_10 : decode cX7_best 10 = .ok (.ifCond .lt 19, 3) := by decide +kernel
theorem dX7_best_13 : decode cX7_best 13 = .ok (.iload_n 2, 1) := by decide +kernel
theorem dX7_best_14 : decode cX7_best 14 = .ok (.iconst 2, 1) := by decide +kernel
theorem dX7_best_15 : decode cX7_best 15 = .ok (.if_icmp .gt 14, 3) := by decide +kernel
theorem dX7_best_18 : decode cX7_best 18 = .ok (.aload_n 0, 1) := by decide +kernel
theorem dX7_best_19 : decode cX7_best 19 = .ok (.getfield 21, 3) := by decide +kernel
theorem dX7_best_22 : decode cX7_best 22 = .ok (.invokevirtual 160, 3) := by decide +kernel
theorem dX7_best_25 : decode cX7_best 25 = .ok (.iconst (-1), 1) := by decide +kernel
theorem dX7_best_26 : decode cX7_best 26 = .ok (.if_icmp .ne 5, 3) := by decide +kernel
theorem dX7_best_29 : decode cX7_best 29 = .ok (.iconst (-1), 1) := by decide +kernel
theorem dX7_best_30 : decode cX7_best 30 = .ok (.ireturn, 1) := by decide +kernel
theorem dX7_best_31 : decode cX7_best 31 = .ok (.aload_n 0, 1) := by decide +kernel
theorem dX7_best_32 : decode cX7_best 32 = .ok (.getfield 52, 3) := by decide +kernel
theorem dX7_best_35 : decode cX7_best 35 = .ok (.aload_n 0, 1) := by decide +kernel
theorem dX7_best_36 : decode cX7_best 36 = .ok (.getfield 21, 3) := by decide +kernel
theorem dX7_best_39 : decode cX7_best 39 = .ok (.iload_n 1, 1) := by decide +kernel
theorem dX7_best_40 : decode cX7_best 40 = .ok (.ifCond .ne 7, 3) := by decide +kernel
theorem dX7_best_43 : decode cX7_best 43 = .ok (.iconst 0, 1) := by decide +kernel
theorem dX7_best_44 : decode cX7_best 44 = .ok (.goto 6, 3) := by decide +kernel
theorem dX7_best_47 : decode cX7_best 47 = .ok (.sipush 1023, 3) := by decide +kernel
theorem dX7_best_50 : decode cX7_best 50 = .ok (.invokevirtual 166, 3) := by decide +kernel
theorem dX7_best_53 : decode cX7_best 53 = .ok (.aload_n 0, 1) := by decide +kernel
theorem dX7_best_54 : decode cX7_best 54 = .ok (.getfield 52, 3) := by decide +kernel
theorem dX7_best_57 : decode cX7_best 57 = .ok (.iload_n 1, 1) := by decide +kernel
theorem dX7_best_58 : decode cX7_best 58 = .ok (.invokevirtual 173, 3) := by decide +kernel
theorem dX7_best_61 : decode cX7_best 61 = .ok (.iload_n 2, 1) := by decide +kernel
theorem dX7_best_62 : decode cX7_best 62 = .ok (.lookupswitch 45 #[(0, 26), (1, 34)], 26) := by decide +kernel
theorem dX7_best_88 : decode cX7_best 88 = .ok (.aload_n 0, 1) := by decide +kernel
theorem dX7_best_89 : decode cX7_best 89 = .ok (.getfield 52, 3) := by decide +kernel
theorem dX7_best_92 : decode cX7_best 92 = .ok (.getfield 176, 3) := by decide +kernel
theorem dX7_best_95 : decode cX7_best 95 = .ok (.ireturn, 1) := by decide +kernel
theorem dX7_best_96 : decode cX7_best 96 = .ok (.aload_n 0, 1) := by decide +kernel
theorem dX7_best_97 : decode cX7_best 97 = .ok (.getfield 52, 3) := by decide +kernel
theorem dX7_best_100 : decode cX7_best 100 = .ok (.getfield 179, 3) := by decide +kernel
theorem dX7_best_103 : decode cX7_best 103 = .ok (.invokestatic 182, 3) := by decide +kernel
theorem dX7_best_106 : decode cX7_best 106 = .ok (.ireturn, 1) := by decide +kernel
theorem dX7_best_107 : decode cX7_best 107 = .ok (.aload_n 0, 1) := by decide +kernel
theorem dX7_best_108 : decode cX7_best 108 = .ok (.getfield 52, 3) := by decide +kernel
theorem dX7_best_111 : decode cX7_best 111 = .ok (.getfield 179, 3) := by decide +kernel
theorem dX7_best_114 : decode cX7_best 114 = .ok (.ireturn, 1) := by decide +kernel
theorem dX7_stepPrice_0 : decode cX7_stepPrice 0 = .ok (.iload_n 0, 1) := by decide +kernel
theorem dX7_stepPrice_1 : decode cX7_stepPrice 1 = .ok (.lookupswitch 31 #[(0, 27), (1, 29)], 27) := by decide +kernel
theorem dX7_stepPrice_28 : decode cX7_stepPrice 28 = .ok (.iconst 4, 1) := by decide +kernel
theorem dX7_stepPrice_29 : decode cX7_stepPrice 29 = .ok (.ireturn, 1) := by decide +kernel
theorem dX7_stepPrice_30 : decode cX7_stepPrice 30 = .ok (.iconst 5, 1) := by decide +kernel
theorem dX7_stepPrice_31 : decode cX7_stepPrice 31 = .ok (.ireturn, 1) := by decide +kernel
theorem dX7_stepPrice_32 : decode cX7_stepPrice 32 = .ok (.iconst 1, 1) := by decide +kernel
theorem dX7_stepPrice_33 : decode cX7_stepPrice 33 = .ok (.iload_n 1, 1) := by decide +kernel
theorem dX7_stepPrice_34 : decode cX7_stepPrice 34 = .ok (.iadd, 1) := by decide +kernel
theorem dX7_stepPrice_35 : decode cX7_stepPrice 35 = .ok (.ireturn, 1) := by decide +kernel
theorem dX8_init_0 : decode cX8_init 0 = .ok (.aload_n 0, 1) := by decide +kernel
theorem dX8_init_1 : decode cX8_init 1 = .ok (.invokespecial 1, 3) := by decide +kernel
theorem dX8_init_4 : decode cX8_init 4 = .ok (.aload_n 0, 1) := by decide +kernel
theorem dX8_init_5 : decode cX8_init 5 = .ok (.sipush 200, 3) := by decide +kernel
theorem dX8_init_8 : decode cX8_init 8 = .ok (.newarray .byte, 2) := by decide +kernel
theorem dX8_init_10 : decode cX8_init 10 = .ok (.putfield 7, 3) := by decide +kernel
theorem dX8_init_13 : decode cX8_init 13 = .ok (.aload_n 0, 1) := by decide +kernel
theorem dX8_init_14 : decode cX8_init 14 = .ok (.sipush 600, 3) := by decide +kernel
theorem dX8_init_17 : decode cX8_init 17 = .ok (.newarray .byte, 2) := by decide +kernel
theorem dX8_init_19 : decode cX8_init 19 = .ok (.putfield 13, 3) := by decide +kernel
theorem dX8_init_22 : decode cX8_init 22 = .ok (.aload_n 0, 1) := by decide +kernel
theorem dX8_init_23 : decode cX8_init 23 = .ok (.iconst 5, 1) := by decide +kernel
theorem dX8_init_24 : decode cX8_init 24 = .ok (.newarray .int, 2) := by decide +kernel
theorem dX8_init_26 : decode cX8_init 26 = .ok (.putfield 16, 3) := by decide +kernel
theorem dX8_init_29 : decode cX8_init 29 = .ok (.aload_n 0, 1) := by decide +kernel
theorem dX8_init_30 : decode cX8_init 30 = .ok (.sipush 14641, 3) := by decide +kernel
theorem dX8_init_33 : decode cX8_init 33 = .ok (.newarray .int, 2) := by decide +kernel
theorem dX8_init_35 : decode cX8_init 35 = .ok (.putfield 20, 3) := by decide +kernel
theorem dX8_init_38 : decode cX8_init 38 = .ok (.aload_n 0, 1) := by decide +kernel
theorem dX8_init_39 : decode cX8_init 39 = .ok (.bipush 121, 2) := by decide +kernel
theorem dX8_init_41 : decode cX8_init 41 = .ok (.newarray .int, 2) := by decide +kernel
theorem dX8_init_43 : decode cX8_init 43 = .ok (.putfield 23, 3) := by decide +kernel
theorem dX8_init_46 : decode cX8_init 46 = .ok (.aload_n 0, 1) := by decide +kernel
theorem dX8_init_47 : decode cX8_init 47 = .ok (.bipush 120, 2) := by decide +kernel
theorem dX8_init_49 : decode cX8_init 49 = .ok (.newarray .int, 2) := by decide +kernel
theorem dX8_init_51 : decode cX8_init 51 = .ok (.putfield 26, 3) := by decide +kernel
theorem dX8_init_54 : decode cX8_init 54 = .ok (.aload_n 0, 1) := by decide +kernel
theorem dX8_init_55 : decode cX8_init 55 = .ok (.bipush 120, 2) := by decide +kernel
theorem dX8_init_57 : decode cX8_init 57 = .ok (.newarray .int, 2) := by decide +kernel
theorem dX8_init_59 : decode cX8_init 59 = .ok (.putfield 29, 3) := by decide +kernel
theorem dX8_init_62 : decode cX8_init 62 = .ok (.aload_n 0, 1) := by decide +kernel
theorem dX8_init_63 : decode cX8_init 63 = .ok (.bipush 120, 2) := by decide +kernel
theorem dX8_init_65 : decode cX8_init 65 = .ok (.newarray .int, 2) := by decide +kernel
theorem dX8_init_67 : decode cX8_init 67 = .ok (.putfield 32, 3) := by decide +kernel
theorem dX8_init_70 : decode cX8_init 70 = .ok (.aload_n 0, 1) := by decide +kernel
theorem dX8_init_71 : decode cX8_init 71 = .ok (.bipush 120, 2) := by decide +kernel
theorem dX8_init_73 : decode cX8_init 73 = .ok (.newarray .int, 2) := by decide +kernel
theorem dX8_init_75 : decode cX8_init 75 = .ok (.putfield 35, 3) := by decide +kernel
theorem dX8_init_78 : decode cX8_init 78 = .ok (.aload_n 0, 1) := by decide +kernel
theorem dX8_init_79 : decode cX8_init 79 = .ok (.bipush 120, 2) := by decide +kernel
theorem dX8_init_81 : decode cX8_init 81 = .ok (.newarray .int, 2) := by decide +kernel
theorem dX8_init_83 : decode cX8_init 83 = .ok (.putfield 38, 3) := by decide +kernel
theorem dX8_init_86 : decode cX8_init 86 = .ok (.aload_n 0, 1) := by decide +kernel
theorem dX8_init_87 : decode cX8_init 87 = .ok (.bipush 120, 2) := by decide +kernel
theorem dX8_init_89 : decode cX8_init 89 = .ok (.newarray .int, 2) := by decide +kernel
theorem dX8_init_91 : decode cX8_init 91 = .ok (.putfield 41, 3) := by decide +kernel
theorem dX8_init_94 : decode cX8_init 94 = .ok (.aload_n 0, 1) := by decide +kernel
theorem dX8_init_95 : decode cX8_init 95 = .ok (.bipush 120, 2) := by decide +kernel
theorem dX8_init_97 : decode cX8_init 97 = .ok (.newarray .int, 2) := by decide +kernel
theorem dX8_init_99 : decode cX8_init 99 = .ok (.putfield 44, 3) := by decide +kernel
theorem dX8_init_102 : decode cX8_init 102 = .ok (.aload_n 0, 1) := by decide +kernel
theorem dX8_init_103 : decode cX8_init 103 = .ok (.bipush 120, 2) := by decide +kernel
theorem dX8_init_105 : decode cX8_init 105 = .ok (.newarray .int, 2) := by decide +kernel
theorem dX8_init_107 : decode cX8_init 107 = .ok (.putfield 47, 3) := by decide +kernel
theorem dX8_init_110 : decode cX8_init 110 = .ok (.aload_n 0, 1) := by decide +kernel
theorem dX8_init_111 : decode cX8_init 111 = .ok (.bipush 120, 2) := by decide +kernel
theorem dX8_init_113 : decode cX8_init 113 = .ok (.newarray .int, 2) := by decide +kernel
theorem dX8_init_115 : decode cX8_init 115 = .ok (.putfield 50, 3) := by decide +kernel
theorem dX8_init_118 : decode cX8_init 118 = .ok (.aload_n 0, 1) := by decide +kernel
theorem dX8_init_119 : decode cX8_init 119 = .ok (.bipush 120, 2) := by decide +kernel
theorem dX8_init_121 : decode cX8_init 121 = .ok (.newarray .int, 2) := by decide +kernel
theorem dX8_init_123 : decode cX8_init 123 = .ok (.putfield 53, 3) := by decide +kernel
theorem dX8_init_126 : decode cX8_init 126 = .ok (.aload_n 0, 1) := by decide +kernel
theorem dX8_init_127 : decode cX8_init 127 = .ok (.bipush 120, 2) := by decide +kernel
theorem dX8_init_129 : decode cX8_init 129 = .ok (.newarray .int, 2) := by decide +kernel
theorem dX8_init_131 : decode cX8_init 131 = .ok (.putfield 56, 3) := by decide +kernel
theorem dX8_init_134 : decode cX8_init 134 = .ok (.aload_n 0, 1) := by decide +kernel
theorem dX8_init_135 : decode cX8_init 135 = .ok (.bipush 120, 2) := by decide +kernel
theorem dX8_init_137 : decode cX8_init 137 = .ok (.newarray .int, 2) := by decide +kernel
theorem dX8_init_139 : decode cX8_init 139 = .ok (.putfield 59, 3) := by decide +kernel
theorem dX8_init_142 : decode cX8_init 142 = .ok (.aload_n 0, 1) := by decide +kernel
theorem dX8_init_143 : decode cX8_init 143 = .ok (.bipush 120, 2) := by decide +kernel
theorem dX8_init_145 : decode cX8_init 145 = .ok (.newarray .boolean, 2) := by decide +kernel
theorem dX8_init_147 : decode cX8_init 147 = .ok (.putfield 62, 3) := by decide +kernel
theorem dX8_init_150 : decode cX8_init 150 = .ok (.aload_n 0, 1) := by decide +kernel
theorem dX8_init_151 : decode cX8_init 151 = .ok (.bipush 120, 2) := by decide +kernel
theorem dX8_init_153 : decode cX8_init 153 = .ok (.newarray .byte, 2) := by decide +kernel
theorem dX8_init_155 : decode cX8_init 155 = .ok (.putfield 66, 3) := by decide +kernel
theorem dX8_init_158 : decode cX8_init 158 = .ok (.aload_n 0, 1) := by decide +kernel
theorem dX8_init_159 : decode cX8_init 159 = .ok (.bipush 120, 2) := by decide +kernel
theorem dX8_init_161 : decode cX8_init 161 = .ok (.newarray .byte, 2) := by decide +kernel
theorem dX8_init_163 : decode cX8_init 163 = .ok (.putfield 69, 3) := by decide +kernel
theorem dX8_init_166 : decode cX8_init 166 = .ok (.aload_n 0, 1) := by decide +kernel
theorem dX8_init_167 : decode cX8_init 167 = .ok (.bipush 120, 2) := by decide +kernel
theorem dX8_init_169 : decode cX8_init 169 = .ok (.newarray .int, 2) := by decide +kernel
theorem dX8_init_171 : decode cX8_init 171 = .ok (.putfield 72, 3) := by decide +kernel
theorem dX8_init_174 : decode cX8_init 174 = .ok (.aload_n 0, 1) := by decide +kernel
theorem dX8_init_175 : decode cX8_init 175 = .ok (.bipush 120, 2) := by decide +kernel
theorem dX8_init_177 : decode cX8_init 177 = .ok (.newarray .int, 2) := by decide +kernel
theorem dX8_init_179 : decode cX8_init 179 = .ok (.putfield 75, 3) := by decide +kernel
theorem dX8_init_182 : decode cX8_init 182 = .ok (.aload_n 0, 1) := by decide +kernel
theorem dX8_init_183 : decode cX8_init 183 = .ok (.bipush 120, 2) := by decide +kernel
theorem dX8_init_185 : decode cX8_init 185 = .ok (.newarray .int, 2) := by decide +kernel
theorem dX8_init_187 : decode cX8_init 187 = .ok (.putfield 78, 3) := by decide +kernel
theorem dX8_init_190 : decode cX8_init 190 = .ok (.aload_n 0, 1) := by decide +kernel
theorem dX8_init_191 : decode cX8_init 191 = .ok (.bipush 120, 2) := by decide +kernel
theorem dX8_init_193 : decode cX8_init 193 = .ok (.newarray .int, 2) := by decide +kernel
theorem dX8_init_195 : decode cX8_init 195 = .ok (.putfield 81, 3) := by decide +kernel
theorem dX8_init_198 : decode cX8_init 198 = .ok (.aload_n 0, 1) := by decide +kernel
theorem dX8_init_199 : decode cX8_init 199 = .ok (.bipush 120, 2) := by decide +kernel
theorem dX8_init_201 : decode cX8_init 201 = .ok (.newarray .int, 2) := by decide +kernel
theorem dX8_init_203 : decode cX8_init 203 = .ok (.putfield 84, 3) := by decide +kernel
theorem dX8_init_206 : decode cX8_init 206 = .ok (.aload_n 0, 1) := by decide +kernel
theorem dX8_init_207 : decode cX8_init 207 = .ok (.iconst 5, 1) := by decide +kernel
theorem dX8_init_208 : decode cX8_init 208 = .ok (.newarray .int, 2) := by decide +kernel
theorem dX8_init_210 : decode cX8_init 210 = .ok (.putfield 87, 3) := by decide +kernel
theorem dX8_init_213 : decode cX8_init 213 = .ok (.aload_n 0, 1) := by decide +kernel
theorem dX8_init_214 : decode cX8_init 214 = .ok (.bipush 10, 2) := by decide +kernel
theorem dX8_init_216 : decode cX8_init 216 = .ok (.newarray .boolean, 2) := by decide +kernel
theorem dX8_init_218 : decode cX8_init 218 = .ok (.putfield 90, 3) := by decide +kernel
theorem dX8_init_221 : decode cX8_init 221 = .ok (.aload_n 0, 1) := by decide +kernel
theorem dX8_init_222 : decode cX8_init 222 = .ok (.bipush 10, 2) := by decide +kernel
theorem dX8_init_224 : decode cX8_init 224 = .ok (.newarray .int, 2) := by decide +kernel
theorem dX8_init_226 : decode cX8_init 226 = .ok (.putfield 93, 3) := by decide +kernel
theorem dX8_init_229 : decode cX8_init 229 = .ok (.aload_n 0, 1) := by decide +kernel
theorem dX8_init_230 : decode cX8_init 230 = .ok (.iconst 5, 1) := by decide +kernel
theorem dX8_init_231 : decode cX8_init 231 = .ok (.newarray .int, 2) := by decide +kernel
theorem dX8_init_233 : decode cX8_init 233 = .ok (.putfield 96, 3) := by decide +kernel
theorem dX8_init_236 : decode cX8_init 236 = .ok (.return_, 1) := by decide +kernel
theorem dX8_isIn_0 : decode cX8_isIn 0 = .ok (.iload_n 0, 1) := by decide +kernel
theorem dX8_isIn_1 : decode cX8_isIn 1 = .ok (.iload_n 1, 1) := by decide +kernel
theorem dX8_isIn_2 : decode cX8_isIn 2 = .ok (.if_icmp .lt 12, 3) := by decide +kernel
theorem dX8_isIn_5 : decode cX8_isIn 5 = .ok (.iload_n 0, 1) := by decide +kernel
theorem dX8_isIn_6 : decode cX8_isIn 6 = .ok (.iload_n 2, 1) := by decide +kernel
theorem dX8_isIn_7 : decode cX8_isIn 7 = .ok (.if_icmp .gt 7, 3) := by decide +kernel
theorem dX8_isIn_10 : decode cX8_isIn 10 = .ok (.iconst 1, 1) := by decide +kernel
theorem dX8_isIn_11 : decode cX8_isIn 11 = .ok (.goto 4, 3) := by decide +kernel
theorem dX8_isIn_14 : decode cX8_isIn 14 = .ok (.iconst 0, 1) := by decide +kernel
theorem dX8_isIn_15 : decode cX8_isIn 15 = .ok (.ireturn, 1) := by decide +kernel
theorem dX8_isVersion_0 : decode cX8_isVersion 0 = .ok (.iload_n 1, 1) := by decide +kernel
theorem dX8_isVersion_1 : decode cX8_isVersion 1 = .ok (.iconst 0, 1) := by decide +kernel
theorem dX8_isVersion_2 : decode cX8_isVersion 2 = .ok (.iconst 4, 1) := by decide +kernel
theorem dX8_isVersion_3 : decode cX8_isVersion 3 = .ok (.invokestatic 99, 3) := by decide +kernel
theorem dX8_isVersion_6 : decode cX8_isVersion 6 = .ok (.ifCond .eq 16, 3) := by decide +kernel
theorem dX8_isVersion_9 : decode cX8_isVersion 9 = .ok (.aload_n 0, 1) := by decide +kernel
theorem dX8_isVersion_10 : decode cX8_isVersion 10 = .ok (.getfield 16, 3) := by decide +kernel
theorem dX8_isVersion_13 : decode cX8_isVersion 13 = .ok (.iload_n 1, 1) := by decide +kernel
theorem dX8_isVersion_14 : decode cX8_isVersion 14 = .ok (.iaload, 1) := by decide +kernel
theorem dX8_isVersion_15 : decode cX8_isVersion 15 = .ok (.ifCond .le 7, 3) := by decide +kernel
theorem dX8_isVersion_18 : decode cX8_isVersion 18 = .ok (.iconst 1, 1) := by decide +kernel
theorem dX8_isVersion_19 : decode cX8_isVersion 19 = .ok (.goto 4, 3) := by decide +kernel
theorem dX8_isVersion_22 : decode cX8_isVersion 22 = .ok (.iconst 0, 1) := by decide +kernel
theorem dX8_isVersion_23 : decode cX8_isVersion 23 = .ok (.ireturn, 1) := by decide +kernel
theorem dX8_feed_0 : decode cX8_feed 0 = .ok (.aload_n 0, 1) := by decide +kernel
theorem dX8_feed_1 : decode cX8_feed 1 = .ok (.getfield 103, 3) := by decide +kernel
theorem dX8_feed_4 : decode cX8_feed 4 = .ok (.bipush 20, 2) := by decide +kernel
theorem dX8_feed_6 : decode cX8_feed 6 = .ok (.iadd, 1) := by decide +kernel
theorem dX8_feed_7 : decode cX8_feed 7 = .ok (.sipush 200, 3) := by decide +kernel
theorem dX8_feed_10 : decode cX8_feed 10 = .ok (.if_icmp .le 5, 3) := by decide +kernel
theorem dX8_feed_13 : decode cX8_feed 13 = .ok (.iconst (-1), 1) := by decide +kernel
theorem dX8_feed_14 : decode cX8_feed 14 = .ok (.ireturn, 1) := by decide +kernel
theorem dX8_feed_15 : decode cX8_feed 15 = .ok (.aload_n 0, 1) := by decide +kernel
theorem dX8_feed_16 : decode cX8_feed 16 = .ok (.iload_n 1, 1) := by decide +kernel
theorem dX8_feed_17 : decode cX8_feed 17 = .ok (.invokevirtual 107, 3) := by decide +kernel
theorem dX8_feed_20 : decode cX8_feed 20 = .ok (.aload_n 0, 1) := by decide +kernel
theorem dX8_feed_21 : decode cX8_feed 21 = .ok (.iload_n 2, 1) := by decide +kernel
theorem dX8_feed_22 : decode cX8_feed 22 = .ok (.invokevirtual 107, 3) := by decide +kernel
theorem dX8_feed_25 : decode cX8_feed 25 = .ok (.aload_n 0, 1) := by decide +kernel
theorem dX8_feed_26 : decode cX8_feed 26 = .ok (.iload_n 3, 1) := by decide +kernel
theorem dX8_feed_27 : decode cX8_feed 27 = .ok (.invokevirtual 107, 3) := by decide +kernel
theorem dX8_feed_30 : decode cX8_feed 30 = .ok (.aload_n 0, 1) := by decide +kernel
theorem dX8_feed_31 : decode cX8_feed 31 = .ok (.iload 4, 2) := by decide +kernel
theorem dX8_feed_33 : decode cX8_feed 33 = .ok (.invokevirtual 107, 3) := by decide +kernel
theorem dX8_feed_36 : decode cX8_feed 36 = .ok (.aload_n 0, 1) := by decide +kernel
theorem dX8_feed_37 : decode cX8_feed 37 = .ok (.iload 5, 2) := by decide +kernel
theorem dX8_feed_39 : decode cX8_feed 39 = .ok (.invokevirtual 107, 3) := by decide +kernel
theorem dX8_feed_42 : decode cX8_feed 42 = .ok (.aload_n 0, 1) := by decide +kernel
theorem dX8_feed_43 : decode cX8_feed 43 = .ok (.getfield 103, 3) := by decide +kernel
theorem dX8_feed_46 : decode cX8_feed 46 = .ok (.ireturn, 1) := by decide +kernel
theorem dX8_four_0 : decode cX8_four 0 = .ok (.bipush 24, 2) := by decide +kernel
theorem dX8_four_2 : decode cX8_four 2 = .ok (.istore_n 2, 1) := by decide +kernel
theorem dX8_four_3 : decode cX8_four 3 = .ok (.iload_n 2, 1) := by decide +kernel
theorem dX8_four_4 : decode cX8_four 4 = .ok (.ifCond .lt 32, 3) := by decide +kernel
theorem dX8_four_7 : decode cX8_four 7 = .ok (.aload_n 0, 1) := by decide +kernel
theorem dX8_four_8 : decode cX8_four 8 = .ok (.getfield 7, 3) := by decide +kernel
theorem dX8_four_11 : decode cX8_four 11 = .ok (.aload_n 0, 1) := by decide +kernel
theorem dX8_four_12 : decode cX8_four 12 = .ok (.getfield 103, 3) := by decide +kernel
theorem dX8_four_15 : decode cX8_four 15 = .ok (.iload_n 1, 1) := by decide +kernel
theorem dX8_four_16 : decode cX8_four 16 = .ok (.iload_n 2, 1) := by decide +kernel
theorem dX8_four_17 : decode cX8_four 17 = .ok (.ishr, 1) := by decide +kernel
theorem dX8_four_18 : decode cX8_four 18 = .ok (.i2b, 1) := by decide +kernel
theorem dX8_four_19 : decode cX8_four 19 = .ok (.bastore, 1) := by decide +kernel
theorem dX8_four_20 : decode cX8_four 20 = .ok (.aload_n 0, 1) := by decide +kernel
theorem dX8_four_21 : decode cX8_four 21 = .ok (.dup, 1) := by decide +kernel
theorem dX8_four_22 : decode cX8_four 22 = .ok (.getfield 103, 3) := by decide +kernel
theorem dX8_four_25 : decode cX8_four 25 = .ok (.iconst 1, 1) := by decide +kernel
theorem dX8_four_26 : decode cX8_four 26 = .ok (.iadd, 1) := by decide +kernel
theorem dX8_four_27 : decode cX8_four 27 = .ok (.putfield 103, 3) := by decide +kernel
theorem dX8_four_30 : decode cX8_four 30 = .ok (.iinc 2 (-8), 3) := by decide +kernel
theorem dX8_four_33 : decode cX8_four 33 = .ok (.goto (-30), 3) := by decide +kernel
theorem dX8_four_36 : decode cX8_four 36 = .ok (.return_, 1) := by decide +kernel
theorem dX8_version_0 : decode cX8_version 0 = .ok (.iload_n 1, 1) := by decide +kernel
theorem dX8_version_1 : decode cX8_version 1 = .ok (.iconst 0, 1) := by decide +kernel
theorem dX8_version_2 : decode cX8_version 2 = .ok (.iconst 4, 1) := by decide +kernel
theorem dX8_version_3 : decode cX8_version 3 = .ok (.invokestatic 99, 3) := by decide +kernel
theorem dX8_version_6 : decode cX8_version 6 = .ok (.ifCond .eq 20, 3) := by decide +kernel
theorem dX8_version_9 : decode cX8_version 9 = .ok (.iload_n 2, 1) := by decide +kernel
theorem dX8_version_10 : decode cX8_version 10 = .ok (.iconst 1, 1) := by decide +kernel
theorem dX8_version_11 : decode cX8_version 11 = .ok (.bipush 120, 2) := by decide +kernel
theorem dX8_version_13 : decode cX8_version 13 = .ok (.aload_n 0, 1) := by decide +kernel
theorem dX8_version_14 : decode cX8_version 14 = .ok (.getfield 103, 3) := by decide +kernel
theorem dX8_version_17 : decode cX8_version 17 = .ok (.invokestatic 111, 3) := by decide +kernel
theorem dX8_version_20 : decode cX8_version 20 = .ok (.invokestatic 99, 3) := by decide +kernel
theorem dX8_version_23 : decode cX8_version 23 = .ok (.ifCond .ne 5, 3) := by decide +kernel
theorem dX8_version_26 : decode cX8_version 26 = .ok (.iconst (-1), 1) := by decide +kernel
theorem dX8_version_27 : decode cX8_version 27 = .ok (.ireturn, 1) := by decide +kernel
theorem dX8_version_28 : decode cX8_version 28 = .ok (.iconst 0, 1) := by decide +kernel
theorem dX8_version_29 : decode cX8_version 29 = .ok (.istore_n 3, 1) := by decide +kernel
theorem dX8_version_30 : decode cX8_version 30 = .ok (.iload_n 3, 1) := by decide +kernel
theorem dX8_version_31 : decode cX8_version 31 = .ok (.iload_n 2, 1) := by decide +kernel
theorem dX8_version_32 : decode cX8_version 32 = .ok (.if_icmp .ge 26, 3) := by decide +kernel
theorem dX8_version_35 : decode cX8_version 35 = .ok (.aload_n 0, 1) := by decide +kernel
theorem dX8_version_36 : decode cX8_version 36 = .ok (.getfield 13, 3) := by decide +kernel
theorem dX8_version_39 : decode cX8_version 39 = .ok (.bipush 120, 2) := by decide +kernel
theorem dX8_version_41 : decode cX8_version 41 = .ok (.iload_n 1, 1) := by decide +kernel
theorem dX8_version_42 : decode cX8_version 42 = .ok (.imul, 1) := by decide +kernel
theorem dX8_version_43 : decode cX8_version 43 = .ok (.iload_n 3, 1) := by decide +kernel
theorem dX8_version_44 : decode cX8_version 44 = .ok (.iadd, 1) := by decide +kernel
theorem dX8_version_45 : decode cX8_version 45 = .ok (.aload_n 0, 1) := by decide +kernel
theorem dX8_version_46 : decode cX8_version 46 = .ok (.getfield 7, 3) := by decide +kernel
theorem dX8_version_49 : decode cX8_version 49 = .ok (.iload_n 3, 1) := by decide +kernel
theorem dX8_version_50 : decode cX8_version 50 = .ok (.baload, 1) := by decide +kernel
theorem dX8_version_51 : decode cX8_version 51 = .ok (.bastore, 1) := by decide +kernel
theorem dX8_version_52 : decode cX8_version 52 = .ok (.iinc 3 1, 3) := by decide +kernel
theorem dX8_version_55 : decode cX8_version 55 = .ok (.goto (-25), 3) := by decide +kernel
theorem dX8_version_58 : decode cX8_version 58 = .ok (.aload_n 0, 1) := by decide +kernel
theorem dX8_version_59 : decode cX8_version 59 = .ok (.getfield 16, 3) := by decide +kernel
theorem dX8_version_62 : decode cX8_version 62 = .ok (.iload_n 1, 1) := by decide +kernel
theorem dX8_version_63 : decode cX8_version 63 = .ok (.iload_n 2, 1) := by decide +kernel
theorem dX8_version_64 : decode cX8_version 64 = .ok (.iastore, 1) := by decide +kernel
theorem dX8_version_65 : decode cX8_version 65 = .ok (.aload_n 0, 1) := by decide +kernel
theorem dX8_version_66 : decode cX8_version 66 = .ok (.iconst 0, 1) := by decide +kernel
theorem dX8_version_67 : decode cX8_version 67 = .ok (.putfield 103, 3) := by decide +kernel
theorem dX8_version_70 : decode cX8_version 70 = .ok (.iload_n 2, 1) := by decide +kernel
theorem dX8_version_71 : decode cX8_version 71 = .ok (.ireturn, 1) := by decide +kernel
theorem dX8_byteOf_0 : decode cX8_byteOf 0 = .ok (.aload_n 0, 1) := by decide +kernel
theorem dX8_byteOf_1 : decode cX8_byteOf 1 = .ok (.getfield 13, 3) := by decide +kernel
theorem dX8_byteOf_4 : decode cX8_byteOf 4 = .ok (.bipush 120, 2) := by decide +kernel
theorem dX8_byteOf_6 : decode cX8_byteOf 6 = .ok (.iload_n 1, 1) := by decide +kernel
theorem dX8_byteOf_7 : decode cX8_byteOf 7 = .ok (.imul, 1) := by decide +kernel
theorem dX8_byteOf_8 : decode cX8_byteOf 8 = .ok (.iload_n 2, 1) := by decide +kernel
theorem dX8_byteOf_9 : decode cX8_byteOf 9 = .ok (.iadd, 1) := by decide +kernel
theorem dX8_byteOf_10 : decode cX8_byteOf 10 = .ok (.baload, 1) := by decide +kernel
theorem dX8_byteOf_11 : decode cX8_byteOf 11 = .ok (.sipush 255, 3) := by decide +kernel
theorem dX8_byteOf_14 : decode cX8_byteOf 14 = .ok (.iand, 1) := by decide +kernel
theorem dX8_byteOf_15 : decode cX8_byteOf 15 = .ok (.ireturn, 1) := by decide +kernel
theorem dX8_told_0 : decode cX8_told 0 = .ok (.aload_n 0, 1) := by decide +kernel
theorem dX8_told_1 : decode cX8_told 1 = .ok (.iload_n 1, 1) := by decide +kernel
theorem dX8_told_2 : decode cX8_told 2 = .ok (.invokevirtual 117, 3) := by decide +kernel
theorem dX8_told_5 : decode cX8_told 5 = .ok (.ifCond .ne 7, 3) := by decide +kernel
theorem dX8_told_8 : decode cX8_told 8 = .ok (.iconst (-1), 1) := by decide +kernel
theorem dX8_told_9 : decode cX8_told 9 = .ok (.goto 43, 3) := by decide +kernel
theorem dX8_told_12 : decode cX8_told 12 = .ok (.iload_n 2, 1) := by decide +kernel
theorem dX8_told_13 : decode cX8_told 13 = .ok (.iconst (-1), 1) := by decide +kernel
theorem dX8_told_14 : decode cX8_told 14 = .ok (.if_icmp .ne 12, 3) := by decide +kernel
theorem dX8_told_17 : decode cX8_told 17 = .ok (.aload_n 0, 1) := by decide +kernel
theorem dX8_told_18 : decode cX8_told 18 = .ok (.getfield 16, 3) := by decide +kernel
theorem dX8_told_21 : decode cX8_told 21 = .ok (.iload_n 1, 1) := by decide +kernel
theorem dX8_told_22 : decode cX8_told 22 = .ok (.iaload, 1) := by decide +kernel
theorem dX8_told_23 : decode cX8_told 23 = .ok (.goto 29, 3) := by decide +kernel
theorem dX8_told_26 : decode cX8_told 26 = .ok (.iload_n 2, 1) := by decide +kernel
theorem dX8_told_27 : decode cX8_told 27 = .ok (.iconst 0, 1) := by decide +kernel
theorem dX8_told_28 : decode cX8_told 28 = .ok (.aload_n 0, 1) := by decide +kernel
theorem dX8_told_29 : decode cX8_told 29 = .ok (.getfield 16, 3) := by decide +kernel
theorem dX8_told_32 : decode cX8_told 32 = .ok (.iload_n 1, 1) := by decide +kernel
theorem dX8_told_33 : decode cX8_told 33 = .ok (.iaload, 1) := by decide +kernel
theorem dX8_told_34 : decode cX8_told 34 = .ok (.iconst 1, 1) := by decide +kernel
theorem dX8_told_35 : decode cX8_told 35 = .ok (.isub, 1) := by decide +kernel
theorem dX8_told_36 : decode cX8_told 36 = .ok (.invokestatic 99, 3) := by decide +kernel
theorem dX8_told_39 : decode cX8_told 39 = .ok (.ifCond .eq 12, 3) := by decide +kernel
theorem dX8_told_42 : decode cX8_told 42 = .ok (.aload_n 0, 1) := by decide +kernel
theorem dX8_told_43 : decode cX8_told 43 = .ok (.iload_n 1, 1) := by decide +kernel
theorem dX8_told_44 : decode cX8_told 44 = .ok (.iload_n 2, 1) := by decide +kernel
theorem dX8_told_45 : decode cX8_told 45 = .ok (.invokevirtual 121, 3) := by decide +kernel
theorem dX8_told_48 : decode cX8_told 48 = .ok (.goto 4, 3) := by decide +kernel
theorem dX8_told_51 : decode cX8_told 51 = .ok (.iconst (-1), 1) := by decide +kernel
theorem dX8_told_52 : decode cX8_told 52 = .ok (.ireturn, 1) := by decide +kernel
theorem dX8_next_0 : decode cX8_next 0 = .ok (.iload_n 0, 1) := by decide +kernel
theorem dX8_next_1 : decode cX8_next 1 = .ok (.bipush 31, 2) := by decide +kernel
theorem dX8_next_3 : decode cX8_next 3 = .ok (.imul, 1) := by decide +kernel
theorem dX8_next_4 : decode cX8_next 4 = .ok (.iload_n 1, 1) := by decide +kernel
theorem dX8_next_5 : decode cX8_next 5 = .ok (.iadd, 1) := by decide +kernel
theorem dX8_next_6 : decode cX8_next 6 = .ok (.iconst 1, 1) := by decide +kernel
theorem dX8_next_7 : decode cX8_next 7 = .ok (.iadd, 1) := by decide +kernel
theorem dX8_next_8 : decode cX8_next 8 = .ok (.ldc 124, 2) := by decide +kernel
theorem dX8_next_10 : decode cX8_next 10 = .ok (.irem, 1) := by decide +kernel
theorem dX8_next_11 : decode cX8_next 11 = .ok (.ireturn, 1) := by decide +kernel
theorem dX8_check_0 : decode cX8_check 0 = .ok (.aload_n 0, 1) := by decide +kernel
theorem dX8_check_1 : decode cX8_check 1 = .ok (.iload_n 1, 1) := by decide +kernel
theorem dX8_check_2 : decode cX8_check 2 = .ok (.invokevirtual 117, 3) := by decide +kernel
theorem dX8_check_5 : decode cX8_check 5 = .ok (.ifCond .ne 5, 3) := by decide +kernel
theorem dX8_check_8 : decode cX8_check 8 = .ok (.iconst (-1), 1) := by decide +kernel
theorem dX8_check_9 : decode cX8_check 9 = .ok (.ireturn, 1) := by decide +kernel
theorem dX8_check_10 : decode cX8_check 10 = .ok (.iconst 1, 1) := by decide +kernel
theorem dX8_check_11 : decode cX8_check 11 = .ok (.istore_n 2, 1) := by decide +kernel
theorem dX8_check_12 : decode cX8_check 12 = .ok (.iconst 0, 1) := by decide +kernel
theorem dX8_check_13 : decode cX8_check 13 = .ok (.istore_n 3, 1) := by decide +kernel
theorem dX8_check_14 : decode cX8_check 14 = .ok (.iload_n 3, 1) := by decide +kernel
theorem dX8_check_15 : decode cX8_check 15 = .ok (.aload_n 0, 1) := by decide +kernel
theorem dX8_check_16 : decode cX8_check 16 = .ok (.getfield 16, 3) := by decide +kernel
theorem dX8_check_19 : decode cX8_check 19 = .ok (.iload_n 1, 1) := by decide +kernel
theorem dX8_check_20 : decode cX8_check 20 = .ok (.iaload, 1) := by decide +kernel
theorem dX8_check_21 : decode cX8_check 21 = .ok (.if_icmp .ge 20, 3) := by decide +kernel
theorem dX8_check_24 : decode cX8_check 24 = .ok (.iload_n 2, 1) := by decide +kernel
theorem dX8_check_25 : decode cX8_check 25 = .ok (.aload_n 0, 1) := by decide +kernel
theorem dX8_check_26 : decode cX8_check 26 = .ok (.iload_n 1, 1) := by decide +kernel
theorem dX8_check_27 : decode cX8_check 27 = .ok (.iload_n 3, 1) := by decide +kernel
theorem dX8_check_28 : decode cX8_check 28 = .ok (.invokevirtual 121, 3) := by decide +kernel
theorem dX8_check_31 : decode cX8_check 31 = .ok (.invokestatic 125, 3) := by decide +kernel
theorem dX8_check_34 : decode cX8_check 34 = .ok (.istore_n 2, 1) := by decide +kernel
theorem dX8_check_35 : decode cX8_check 35 = .ok (.iinc 3 1, 3) := by decide +kernel
theorem dX8_check_38 : decode cX8_check 38 = .ok (.goto (-24), 3) := by decide +kernel
theorem dX8_check_41 : decode cX8_check 41 = .ok (.iload_n 2, 1) := by decide +kernel
theorem dX8_check_42 : decode cX8_check 42 = .ok (.ireturn, 1) := by decide +kernel
theorem dX8_apart_0 : decode cX8_apart 0 = .ok (.aload_n 0, 1) := by decide +kernel
theorem dX8_apart_1 : decode cX8_apart 1 = .ok (.iload_n 2, 1) := by decide +kernel
theorem dX8_apart_2 : decode cX8_apart 2 = .ok (.iload_n 3, 1) := by decide +kernel
theorem dX8_apart_3 : decode cX8_apart 3 = .ok (.invokevirtual 121, 3) := by decide +kernel
theorem dX8_apart_6 : decode cX8_apart 6 = .ok (.aload_n 0, 1) := by decide +kernel
theorem dX8_apart_7 : decode cX8_apart 7 = .ok (.iload_n 1, 1) := by decide +kernel
theorem dX8_apart_8 : decode cX8_apart 8 = .ok (.iload 4, 2) := by decide +kernel
theorem dX8_apart_10 : decode cX8_apart 10 = .ok (.invokevirtual 121, 3) := by decide +kernel
theorem dX8_apart_13 : decode cX8_apart 13 = .ok (.isub, 1) := by decide +kernel
theorem dX8_apart_14 : decode cX8_apart 14 = .ok (.sipush 255, 3) := by decide +kernel
theorem dX8_apart_17 : decode cX8_apart 17 = .ok (.iand, 1) := by decide +kernel
theorem dX8_apart_18 : decode cX8_apart 18 = .ok (.ireturn, 1) := by decide +kernel
theorem dX8_runAt_0 : decode cX8_runAt 0 = .ok (.aload_n 0, 1) := by decide +kernel
theorem dX8_runAt_1 : decode cX8_runAt 1 = .ok (.getfield 20, 3) := by decide +kernel
theorem dX8_runAt_4 : decode cX8_runAt 4 = .ok (.bipush 121, 2) := by decide +kernel
theorem dX8_runAt_6 : decode cX8_runAt 6 = .ok (.iload_n 1, 1) := by decide +kernel
theorem dX8_runAt_7 : decode cX8_runAt 7 = .ok (.imul, 1) := by decide +kernel
theorem dX8_runAt_8 : decode cX8_runAt 8 = .ok (.iload_n 2, 1) := by decide +kernel
end
section
theorem dX8_runAt_9 : decode cX8_runAt 9 = .ok (.iadd, 1) := by decide +kernel
theorem dX8_runAt_10 : decode cX8_runAt 10 = .ok (.iaload, 1) := by decide +kernel
theorem dX8_runAt_11 : decode cX8_runAt 11 = .ok (.ireturn, 1) := by decide +kernel
theorem dX8_makes_0 : decode cX8_makes 0 = .ok (.aload_n 0, 1) := by decide +kernel
theorem dX8_makes_1 : decode cX8_makes 1 = .ok (.getfield 16, 3) := by decide +kernel
theorem dX8_makes_4 : decode cX8_makes 4 = .ok (.iload_n 2, 1) := by decide +kernel
theorem dX8_makes_5 : decode cX8_makes 5 = .ok (.iaload, 1) := by decide +kernel
theorem dX8_makes_6 : decode cX8_makes 6 = .ok (.istore_n 3, 1) := by decide +kernel
theorem dX8_makes_7 : decode cX8_makes 7 = .ok (.aload_n 0, 1) := by decide +kernel
theorem dX8_makes_8 : decode cX8_makes 8 = .ok (.getfield 16, 3) := by decide +kernel
theorem dX8_makes_11 : decode cX8_makes 11 = .ok (.iload_n 1, 1) := by decide +kernel
theorem dX8_makes_12 : decode cX8_makes 12 = .ok (.iaload, 1) := by decide +kernel
theorem dX8_makes_13 : decode cX8_makes 13 = .ok (.istore 4, 2) := by decide +kernel
theorem dX8_makes_15 : decode cX8_makes 15 = .ok (.iload_n 3, 1) := by decide +kernel
theorem dX8_makes_16 : decode cX8_makes 16 = .ok (.istore 5, 2) := by decide +kernel
theorem dX8_makes_18 : decode cX8_makes 18 = .ok (.iload 5, 2) := by decide +kernel
theorem dX8_makes_20 : decode cX8_makes 20 = .ok (.ifCond .lt 119, 3) := by decide +kernel
theorem dX8_makes_23 : decode cX8_makes 23 = .ok (.iload 4, 2) := by decide +kernel
theorem dX8_makes_25 : decode cX8_makes 25 = .ok (.istore 6, 2) := by decide +kernel
theorem dX8_makes_27 : decode cX8_makes 27 = .ok (.iload 6, 2) := by decide +kernel
theorem dX8_makes_29 : decode cX8_makes 29 = .ok (.ifCond .lt 104, 3) := by decide +kernel
theorem dX8_makes_32 : decode cX8_makes 32 = .ok (.iconst 0, 1) := by decide +kernel
theorem dX8_makes_33 : decode cX8_makes 33 = .ok (.istore 7, 2) := by decide +kernel
theorem dX8_makes_35 : decode cX8_makes 35 = .ok (.iload 5, 2) := by decide +kernel
theorem dX8_makes_37 : decode cX8_makes 37 = .ok (.iload_n 3, 1) := by decide +kernel
theorem dX8_makes_38 : decode cX8_makes 38 = .ok (.if_icmp .ge 74, 3) := by decide +kernel
theorem dX8_makes_41 : decode cX8_makes 41 = .ok (.iload 6, 2) := by decide +kernel
theorem dX8_makes_43 : decode cX8_makes 43 = .ok (.iload 4, 2) := by decide +kernel
theorem dX8_makes_45 : decode cX8_makes 45 = .ok (.if_icmp .ge 67, 3) := by decide +kernel
theorem dX8_makes_48 : decode cX8_makes 48 = .ok (.iload 5, 2) := by decide +kernel
theorem dX8_makes_50 : decode cX8_makes 50 = .ok (.iconst 1, 1) := by decide +kernel
theorem dX8_makes_51 : decode cX8_makes 51 = .ok (.iadd, 1) := by decide +kernel
theorem dX8_makes_52 : decode cX8_makes 52 = .ok (.iload_n 3, 1) := by decide +kernel
theorem dX8_makes_53 : decode cX8_makes 53 = .ok (.if_icmp .ge 56, 3) := by decide +kernel
theorem dX8_makes_56 : decode cX8_makes 56 = .ok (.iload 6, 2) := by decide +kernel
theorem dX8_makes_58 : decode cX8_makes 58 = .ok (.iconst 1, 1) := by decide +kernel
theorem dX8_makes_59 : decode cX8_makes 59 = .ok (.iadd, 1) := by decide +kernel
theorem dX8_makes_60 : decode cX8_makes 60 = .ok (.iload 4, 2) := by decide +kernel
theorem dX8_makes_62 : decode cX8_makes 62 = .ok (.if_icmp .ge 47, 3) := by decide +kernel
theorem dX8_makes_65 : decode cX8_makes 65 = .ok (.aload_n 0, 1) := by decide +kernel
theorem dX8_makes_66 : decode cX8_makes 66 = .ok (.iload_n 1, 1) := by decide +kernel
theorem dX8_makes_67 : decode cX8_makes 67 = .ok (.iload_n 2, 1) := by decide +kernel
theorem dX8_makes_68 : decode cX8_makes 68 = .ok (.iload 5, 2) := by decide +kernel
theorem dX8_makes_70 : decode cX8_makes 70 = .ok (.iconst 1, 1) := by decide +kernel
theorem dX8_makes_71 : decode cX8_makes 71 = .ok (.iadd, 1) := by decide +kernel
theorem dX8_makes_72 : decode cX8_makes 72 = .ok (.iload 6, 2) := by decide +kernel
theorem dX8_makes_74 : decode cX8_makes 74 = .ok (.iconst 1, 1) := by decide +kernel
theorem dX8_makes_75 : decode cX8_makes 75 = .ok (.iadd, 1) := by decide +kernel
theorem dX8_makes_76 : decode cX8_makes 76 = .ok (.invokevirtual 128, 3) := by decide +kernel
theorem dX8_makes_79 : decode cX8_makes 79 = .ok (.aload_n 0, 1) := by decide +kernel
theorem dX8_makes_80 : decode cX8_makes 80 = .ok (.iload_n 1, 1) := by decide +kernel
theorem dX8_makes_81 : decode cX8_makes 81 = .ok (.iload_n 2, 1) := by decide +kernel
theorem dX8_makes_82 : decode cX8_makes 82 = .ok (.iload 5, 2) := by decide +kernel
theorem dX8_makes_84 : decode cX8_makes 84 = .ok (.iload 6, 2) := by decide +kernel
theorem dX8_makes_86 : decode cX8_makes 86 = .ok (.invokevirtual 128, 3) := by decide +kernel
theorem dX8_makes_89 : decode cX8_makes 89 = .ok (.if_icmp .ne 20, 3) := by decide +kernel
theorem dX8_makes_92 : decode cX8_makes 92 = .ok (.iconst 1, 1) := by decide +kernel
theorem dX8_makes_93 : decode cX8_makes 93 = .ok (.aload_n 0, 1) := by decide +kernel
theorem dX8_makes_94 : decode cX8_makes 94 = .ok (.iload 5, 2) := by decide +kernel
theorem dX8_makes_96 : decode cX8_makes 96 = .ok (.iconst 1, 1) := by decide +kernel
theorem dX8_makes_97 : decode cX8_makes 97 = .ok (.iadd, 1) := by decide +kernel
theorem dX8_makes_98 : decode cX8_makes 98 = .ok (.iload 6, 2) := by decide +kernel
theorem dX8_makes_100 : decode cX8_makes 100 = .ok (.iconst 1, 1) := by decide +kernel
theorem dX8_makes_101 : decode cX8_makes 101 = .ok (.iadd, 1) := by decide +kernel
theorem dX8_makes_102 : decode cX8_makes 102 = .ok (.invokevirtual 132, 3) := by decide +kernel
theorem dX8_makes_105 : decode cX8_makes 105 = .ok (.iadd, 1) := by decide +kernel
theorem dX8_makes_106 : decode cX8_makes 106 = .ok (.goto 4, 3) := by decide +kernel
theorem dX8_makes_109 : decode cX8_makes 109 = .ok (.iconst 1, 1) := by decide +kernel
theorem dX8_makes_110 : decode cX8_makes 110 = .ok (.istore 7, 2) := by decide +kernel
theorem dX8_makes_112 : decode cX8_makes 112 = .ok (.aload_n 0, 1) := by decide +kernel
theorem dX8_makes_113 : decode cX8_makes 113 = .ok (.getfield 20, 3) := by decide +kernel
theorem dX8_makes_116 : decode cX8_makes 116 = .ok (.bipush 121, 2) := by decide +kernel
theorem dX8_makes_118 : decode cX8_makes 118 = .ok (.iload 5, 2) := by decide +kernel
theorem dX8_makes_120 : decode cX8_makes 120 = .ok (.imul, 1) := by decide +kernel
theorem dX8_makes_121 : decode cX8_makes 121 = .ok (.iload 6, 2) := by decide +kernel
theorem dX8_makes_123 : decode cX8_makes 123 = .ok (.iadd, 1) := by decide +kernel
theorem dX8_makes_124 : decode cX8_makes 124 = .ok (.iload 7, 2) := by decide +kernel
theorem dX8_makes_126 : decode cX8_makes 126 = .ok (.iastore, 1) := by decide +kernel
theorem dX8_makes_127 : decode cX8_makes 127 = .ok (.iinc 6 (-1), 3) := by decide +kernel
theorem dX8_makes_130 : decode cX8_makes 130 = .ok (.goto (-103), 3) := by decide +kernel
theorem dX8_makes_133 : decode cX8_makes 133 = .ok (.iinc 5 (-1), 3) := by decide +kernel
theorem dX8_makes_136 : decode cX8_makes 136 = .ok (.goto (-118), 3) := by decide +kernel
theorem dX8_makes_139 : decode cX8_makes 139 = .ok (.aload_n 0, 1) := by decide +kernel
theorem dX8_makes_140 : decode cX8_makes 140 = .ok (.getfield 23, 3) := by decide +kernel
theorem dX8_makes_143 : decode cX8_makes 143 = .ok (.iload_n 3, 1) := by decide +kernel
theorem dX8_makes_144 : decode cX8_makes 144 = .ok (.iconst 0, 1) := by decide +kernel
theorem dX8_makes_145 : decode cX8_makes 145 = .ok (.iastore, 1) := by decide +kernel
theorem dX8_makes_146 : decode cX8_makes 146 = .ok (.iload_n 3, 1) := by decide +kernel
theorem dX8_makes_147 : decode cX8_makes 147 = .ok (.iconst 1, 1) := by decide +kernel
theorem dX8_makes_148 : decode cX8_makes 148 = .ok (.isub, 1) := by decide +kernel
theorem dX8_makes_149 : decode cX8_makes 149 = .ok (.istore 5, 2) := by decide +kernel
theorem dX8_makes_151 : decode cX8_makes 151 = .ok (.iload 5, 2) := by decide +kernel
theorem dX8_makes_153 : decode cX8_makes 153 = .ok (.ifCond .lt 231, 3) := by decide +kernel
theorem dX8_makes_156 : decode cX8_makes 156 = .ok (.aload_n 0, 1) := by decide +kernel
theorem dX8_makes_157 : decode cX8_makes 157 = .ok (.getfield 23, 3) := by decide +kernel
theorem dX8_makes_160 : decode cX8_makes 160 = .ok (.iload 5, 2) := by decide +kernel
theorem dX8_makes_162 : decode cX8_makes 162 = .ok (.ldc 135, 2) := by decide +kernel
theorem dX8_makes_164 : decode cX8_makes 164 = .ok (.iastore, 1) := by decide +kernel
theorem dX8_makes_165 : decode cX8_makes 165 = .ok (.iconst 1, 1) := by decide +kernel
theorem dX8_makes_166 : decode cX8_makes 166 = .ok (.istore 6, 2) := by decide +kernel
theorem dX8_makes_168 : decode cX8_makes 168 = .ok (.iload 6, 2) := by decide +kernel
theorem dX8_makes_170 : decode cX8_makes 170 = .ok (.bipush 30, 2) := by decide +kernel
theorem dX8_makes_172 : decode cX8_makes 172 = .ok (.iload_n 3, 1) := by decide +kernel
theorem dX8_makes_173 : decode cX8_makes 173 = .ok (.iload 5, 2) := by decide +kernel
theorem dX8_makes_175 : decode cX8_makes 175 = .ok (.isub, 1) := by decide +kernel
theorem dX8_makes_176 : decode cX8_makes 176 = .ok (.invokestatic 111, 3) := by decide +kernel
theorem dX8_makes_179 : decode cX8_makes 179 = .ok (.if_icmp .gt 41, 3) := by decide +kernel
theorem dX8_makes_182 : decode cX8_makes 182 = .ok (.aload_n 0, 1) := by decide +kernel
theorem dX8_makes_183 : decode cX8_makes 183 = .ok (.getfield 23, 3) := by decide +kernel
theorem dX8_makes_186 : decode cX8_makes 186 = .ok (.iload 5, 2) := by decide +kernel
theorem dX8_makes_188 : decode cX8_makes 188 = .ok (.aload_n 0, 1) := by decide +kernel
theorem dX8_makes_189 : decode cX8_makes 189 = .ok (.getfield 23, 3) := by decide +kernel
theorem dX8_makes_192 : decode cX8_makes 192 = .ok (.iload 5, 2) := by decide +kernel
theorem dX8_makes_194 : decode cX8_makes 194 = .ok (.iaload, 1) := by decide +kernel
theorem dX8_makes_195 : decode cX8_makes 195 = .ok (.iconst 1, 1) := by decide +kernel
theorem dX8_makes_196 : decode cX8_makes 196 = .ok (.iload 6, 2) := by decide +kernel
theorem dX8_makes_198 : decode cX8_makes 198 = .ok (.iadd, 1) := by decide +kernel
theorem dX8_makes_199 : decode cX8_makes 199 = .ok (.aload_n 0, 1) := by decide +kernel
theorem dX8_makes_200 : decode cX8_makes 200 = .ok (.getfield 23, 3) := by decide +kernel
theorem dX8_makes_203 : decode cX8_makes 203 = .ok (.iload 5, 2) := by decide +kernel
theorem dX8_makes_205 : decode cX8_makes 205 = .ok (.iload 6, 2) := by decide +kernel
theorem dX8_makes_207 : decode cX8_makes 207 = .ok (.iadd, 1) := by decide +kernel
theorem dX8_makes_208 : decode cX8_makes 208 = .ok (.iaload, 1) := by decide +kernel
theorem dX8_makes_209 : decode cX8_makes 209 = .ok (.iadd, 1) := by decide +kernel
theorem dX8_makes_210 : decode cX8_makes 210 = .ok (.invokestatic 111, 3) := by decide +kernel
theorem dX8_makes_213 : decode cX8_makes 213 = .ok (.iastore, 1) := by decide +kernel
theorem dX8_makes_214 : decode cX8_makes 214 = .ok (.iinc 6 1, 3) := by decide +kernel
theorem dX8_makes_217 : decode cX8_makes 217 = .ok (.goto (-49), 3) := by decide +kernel
theorem dX8_makes_220 : decode cX8_makes 220 = .ok (.iconst 0, 1) := by decide +kernel
theorem dX8_makes_221 : decode cX8_makes 221 = .ok (.istore 6, 2) := by decide +kernel
theorem dX8_makes_223 : decode cX8_makes 223 = .ok (.iconst 0, 1) := by decide +kernel
theorem dX8_makes_224 : decode cX8_makes 224 = .ok (.istore 7, 2) := by decide +kernel
theorem dX8_makes_226 : decode cX8_makes 226 = .ok (.iconst 0, 1) := by decide +kernel
theorem dX8_makes_227 : decode cX8_makes 227 = .ok (.istore 8, 2) := by decide +kernel
theorem dX8_makes_229 : decode cX8_makes 229 = .ok (.iload 8, 2) := by decide +kernel
theorem dX8_makes_231 : decode cX8_makes 231 = .ok (.iload 4, 2) := by decide +kernel
theorem dX8_makes_233 : decode cX8_makes 233 = .ok (.if_icmp .ge 55, 3) := by decide +kernel
theorem dX8_makes_236 : decode cX8_makes 236 = .ok (.aload_n 0, 1) := by decide +kernel
theorem dX8_makes_237 : decode cX8_makes 237 = .ok (.iload_n 1, 1) := by decide +kernel
theorem dX8_makes_238 : decode cX8_makes 238 = .ok (.iload_n 2, 1) := by decide +kernel
theorem dX8_makes_239 : decode cX8_makes 239 = .ok (.iload 5, 2) := by decide +kernel
theorem dX8_makes_241 : decode cX8_makes 241 = .ok (.iload 8, 2) := by decide +kernel
theorem dX8_makes_243 : decode cX8_makes 243 = .ok (.invokevirtual 128, 3) := by decide +kernel
theorem dX8_makes_246 : decode cX8_makes 246 = .ok (.ifCond .ne 21, 3) := by decide +kernel
theorem dX8_makes_249 : decode cX8_makes 249 = .ok (.iload 6, 2) := by decide +kernel
theorem dX8_makes_251 : decode cX8_makes 251 = .ok (.aload_n 0, 1) := by decide +kernel
theorem dX8_makes_252 : decode cX8_makes 252 = .ok (.iload 5, 2) := by decide +kernel
theorem dX8_makes_254 : decode cX8_makes 254 = .ok (.iload 8, 2) := by decide +kernel
theorem dX8_makes_256 : decode cX8_makes 256 = .ok (.invokevirtual 132, 3) := by decide +kernel
theorem dX8_makes_259 : decode cX8_makes 259 = .ok (.invokestatic 136, 3) := by decide +kernel
theorem dX8_makes_262 : decode cX8_makes 262 = .ok (.istore 6, 2) := by decide +kernel
theorem dX8_makes_264 : decode cX8_makes 264 = .ok (.goto 18, 3) := by decide +kernel
theorem dX8_makes_267 : decode cX8_makes 267 = .ok (.iload 7, 2) := by decide +kernel
theorem dX8_makes_269 : decode cX8_makes 269 = .ok (.aload_n 0, 1) := by decide +kernel
theorem dX8_makes_270 : decode cX8_makes 270 = .ok (.iload 5, 2) := by decide +kernel
theorem dX8_makes_272 : decode cX8_makes 272 = .ok (.iload 8, 2) := by decide +kernel
theorem dX8_makes_274 : decode cX8_makes 274 = .ok (.invokevirtual 132, 3) := by decide +kernel
theorem dX8_makes_277 : decode cX8_makes 277 = .ok (.invokestatic 136, 3) := by decide +kernel
theorem dX8_makes_280 : decode cX8_makes 280 = .ok (.istore 7, 2) := by decide +kernel
theorem dX8_makes_282 : decode cX8_makes 282 = .ok (.iinc 8 1, 3) := by decide +kernel
theorem dX8_makes_285 : decode cX8_makes 285 = .ok (.goto (-56), 3) := by decide +kernel
theorem dX8_makes_288 : decode cX8_makes 288 = .ok (.iconst 1, 1) := by decide +kernel
theorem dX8_makes_289 : decode cX8_makes 289 = .ok (.istore 8, 2) := by decide +kernel
theorem dX8_makes_291 : decode cX8_makes 291 = .ok (.iload 8, 2) := by decide +kernel
theorem dX8_makes_293 : decode cX8_makes 293 = .ok (.iload 6, 2) := by decide +kernel
theorem dX8_makes_295 : decode cX8_makes 295 = .ok (.if_icmp .gt 38, 3) := by decide +kernel
theorem dX8_makes_298 : decode cX8_makes 298 = .ok (.aload_n 0, 1) := by decide +kernel
theorem dX8_makes_299 : decode cX8_makes 299 = .ok (.getfield 23, 3) := by decide +kernel
theorem dX8_makes_302 : decode cX8_makes 302 = .ok (.iload 5, 2) := by decide +kernel
theorem dX8_makes_304 : decode cX8_makes 304 = .ok (.aload_n 0, 1) := by decide +kernel
theorem dX8_makes_305 : decode cX8_makes 305 = .ok (.getfield 23, 3) := by decide +kernel
theorem dX8_makes_308 : decode cX8_makes 308 = .ok (.iload 5, 2) := by decide +kernel
theorem dX8_makes_310 : decode cX8_makes 310 = .ok (.iaload, 1) := by decide +kernel
theorem dX8_makes_311 : decode cX8_makes 311 = .ok (.iconst 4, 1) := by decide +kernel
theorem dX8_makes_312 : decode cX8_makes 312 = .ok (.aload_n 0, 1) := by decide +kernel
theorem dX8_makes_313 : decode cX8_makes 313 = .ok (.getfield 23, 3) := by decide +kernel
theorem dX8_makes_316 : decode cX8_makes 316 = .ok (.iload 5, 2) := by decide +kernel
theorem dX8_makes_318 : decode cX8_makes 318 = .ok (.iload 8, 2) := by decide +kernel
theorem dX8_makes_320 : decode cX8_makes 320 = .ok (.iadd, 1) := by decide +kernel
theorem dX8_makes_321 : decode cX8_makes 321 = .ok (.iaload, 1) := by decide +kernel
theorem dX8_makes_322 : decode cX8_makes 322 = .ok (.iadd, 1) := by decide +kernel
theorem dX8_makes_323 : decode cX8_makes 323 = .ok (.invokestatic 111, 3) := by decide +kernel
theorem dX8_makes_326 : decode cX8_makes 326 = .ok (.iastore, 1) := by decide +kernel
theorem dX8_makes_327 : decode cX8_makes 327 = .ok (.iinc 8 1, 3) := by decide +kernel
theorem dX8_makes_330 : decode cX8_makes 330 = .ok (.goto (-39), 3) := by decide +kernel
theorem dX8_makes_333 : decode cX8_makes 333 = .ok (.iconst 1, 1) := by decide +kernel
theorem dX8_makes_334 : decode cX8_makes 334 = .ok (.istore 8, 2) := by decide +kernel
theorem dX8_makes_336 : decode cX8_makes 336 = .ok (.iload 8, 2) := by decide +kernel
theorem dX8_makes_338 : decode cX8_makes 338 = .ok (.iload 7, 2) := by decide +kernel
theorem dX8_makes_340 : decode cX8_makes 340 = .ok (.if_icmp .gt 38, 3) := by decide +kernel
theorem dX8_makes_343 : decode cX8_makes 343 = .ok (.aload_n 0, 1) := by decide +kernel
theorem dX8_makes_344 : decode cX8_makes 344 = .ok (.getfield 23, 3) := by decide +kernel
theorem dX8_makes_347 : decode cX8_makes 347 = .ok (.iload 5, 2) := by decide +kernel
theorem dX8_makes_349 : decode cX8_makes 349 = .ok (.aload_n 0, 1) := by decide +kernel
theorem dX8_makes_350 : decode cX8_makes 350 = .ok (.getfield 23, 3) := by decide +kernel
theorem dX8_makes_353 : decode cX8_makes 353 = .ok (.iload 5, 2) := by decide +kernel
theorem dX8_makes_355 : decode cX8_makes 355 = .ok (.iaload, 1) := by decide +kernel
theorem dX8_makes_356 : decode cX8_makes 356 = .ok (.iconst 5, 1) := by decide +kernel
theorem dX8_makes_357 : decode cX8_makes 357 = .ok (.aload_n 0, 1) := by decide +kernel
theorem dX8_makes_358 : decode cX8_makes 358 = .ok (.getfield 23, 3) := by decide +kernel
theorem dX8_makes_361 : decode cX8_makes 361 = .ok (.iload 5, 2) := by decide +kernel
theorem dX8_makes_363 : decode cX8_makes 363 = .ok (.iload 8, 2) := by decide +kernel
theorem dX8_makes_365 : decode cX8_makes 365 = .ok (.iadd, 1) := by decide +kernel
theorem dX8_makes_366 : decode cX8_makes 366 = .ok (.iaload, 1) := by decide +kernel
theorem dX8_makes_367 : decode cX8_makes 367 = .ok (.iadd, 1) := by decide +kernel
theorem dX8_makes_368 : decode cX8_makes 368 = .ok (.invokestatic 111, 3) := by decide +kernel
theorem dX8_makes_371 : decode cX8_makes 371 = .ok (.iastore, 1) := by decide +kernel
theorem dX8_makes_372 : decode cX8_makes 372 = .ok (.iinc 8 1, 3) := by decide +kernel
theorem dX8_makes_375 : decode cX8_makes 375 = .ok (.goto (-39), 3) := by decide +kernel
theorem dX8_makes_378 : decode cX8_makes 378 = .ok (.iinc 5 (-1), 3) := by decide +kernel
theorem dX8_makes_381 : decode cX8_makes 381 = .ok (.goto (-230), 3) := by decide +kernel
theorem dX8_makes_384 : decode cX8_makes 384 = .ok (.aload_n 0, 1) := by decide +kernel
theorem dX8_makes_385 : decode cX8_makes 385 = .ok (.iconst 3, 1) := by decide +kernel
theorem dX8_makes_386 : decode cX8_makes 386 = .ok (.aload_n 0, 1) := by decide +kernel
theorem dX8_makes_387 : decode cX8_makes 387 = .ok (.getfield 23, 3) := by decide +kernel
theorem dX8_makes_390 : decode cX8_makes 390 = .ok (.iconst 0, 1) := by decide +kernel
theorem dX8_makes_391 : decode cX8_makes 391 = .ok (.iaload, 1) := by decide +kernel
theorem dX8_makes_392 : decode cX8_makes 392 = .ok (.iadd, 1) := by decide +kernel
theorem dX8_makes_393 : decode cX8_makes 393 = .ok (.putfield 139, 3) := by decide +kernel
theorem dX8_makes_396 : decode cX8_makes 396 = .ok (.aload_n 0, 1) := by decide +kernel
theorem dX8_makes_397 : decode cX8_makes 397 = .ok (.iconst 0, 1) := by decide +kernel
theorem dX8_makes_398 : decode cX8_makes 398 = .ok (.putfield 142, 3) := by decide +kernel
theorem dX8_makes_401 : decode cX8_makes 401 = .ok (.iconst 0, 1) := by decide +kernel
theorem dX8_makes_402 : decode cX8_makes 402 = .ok (.istore 5, 2) := by decide +kernel
theorem dX8_makes_404 : decode cX8_makes 404 = .ok (.iload 5, 2) := by decide +kernel
theorem dX8_makes_406 : decode cX8_makes 406 = .ok (.iload_n 3, 1) := by decide +kernel
theorem dX8_makes_407 : decode cX8_makes 407 = .ok (.if_icmp .ge 142, 3) := by decide +kernel
theorem dX8_makes_410 : decode cX8_makes 410 = .ok (.aload_n 0, 1) := by decide +kernel
theorem dX8_makes_411 : decode cX8_makes 411 = .ok (.iload_n 1, 1) := by decide +kernel
theorem dX8_makes_412 : decode cX8_makes 412 = .ok (.iload_n 2, 1) := by decide +kernel
theorem dX8_makes_413 : decode cX8_makes 413 = .ok (.iload 5, 2) := by decide +kernel
theorem dX8_makes_415 : decode cX8_makes 415 = .ok (.iconst 0, 1) := by decide +kernel
theorem dX8_makes_416 : decode cX8_makes 416 = .ok (.invokevirtual 145, 3) := by decide +kernel
theorem dX8_makes_419 : decode cX8_makes 419 = .ok (.ifCond .ne 22, 3) := by decide +kernel
theorem dX8_makes_422 : decode cX8_makes 422 = .ok (.aload_n 0, 1) := by decide +kernel
theorem dX8_makes_423 : decode cX8_makes 423 = .ok (.iload_n 1, 1) := by decide +kernel
theorem dX8_makes_424 : decode cX8_makes 424 = .ok (.iload_n 2, 1) := by decide +kernel
theorem dX8_makes_425 : decode cX8_makes 425 = .ok (.iload 5, 2) := by decide +kernel
theorem dX8_makes_427 : decode cX8_makes 427 = .ok (.iconst 1, 1) := by decide +kernel
theorem dX8_makes_428 : decode cX8_makes 428 = .ok (.invokevirtual 145, 3) := by decide +kernel
theorem dX8_makes_431 : decode cX8_makes 431 = .ok (.ifCond .ne 10, 3) := by decide +kernel
theorem dX8_makes_434 : decode cX8_makes 434 = .ok (.aload_n 0, 1) := by decide +kernel
theorem dX8_makes_435 : decode cX8_makes 435 = .ok (.iload 5, 2) := by decide +kernel
theorem dX8_makes_437 : decode cX8_makes 437 = .ok (.iload_n 3, 1) := by decide +kernel
theorem dX8_makes_438 : decode cX8_makes 438 = .ok (.invokevirtual 149, 3) := by decide +kernel
theorem dX8_makes_441 : decode cX8_makes 441 = .ok (.iconst 0, 1) := by decide +kernel
theorem dX8_makes_442 : decode cX8_makes 442 = .ok (.istore 6, 2) := by decide +kernel
theorem dX8_makes_444 : decode cX8_makes 444 = .ok (.iload 6, 2) := by decide +kernel
theorem dX8_makes_446 : decode cX8_makes 446 = .ok (.aload_n 0, 1) := by decide +kernel
theorem dX8_makes_447 : decode cX8_makes 447 = .ok (.getfield 29, 3) := by decide +kernel
theorem dX8_makes_450 : decode cX8_makes 450 = .ok (.aload_n 0, 1) := by decide +kernel
theorem dX8_makes_451 : decode cX8_makes 451 = .ok (.getfield 142, 3) := by decide +kernel
theorem dX8_makes_454 : decode cX8_makes 454 = .ok (.iaload, 1) := by decide +kernel
theorem dX8_makes_455 : decode cX8_makes 455 = .ok (.if_icmp .ge 67, 3) := by decide +kernel
theorem dX8_makes_458 : decode cX8_makes 458 = .ok (.aload_n 0, 1) := by decide +kernel
theorem dX8_makes_459 : decode cX8_makes 459 = .ok (.getfield 38, 3) := by decide +kernel
theorem dX8_makes_462 : decode cX8_makes 462 = .ok (.iload 5, 2) := by decide +kernel
theorem dX8_makes_464 : decode cX8_makes 464 = .ok (.iload 6, 2) := by decide +kernel
theorem dX8_makes_466 : decode cX8_makes 466 = .ok (.iadd, 1) := by decide +kernel
theorem dX8_makes_467 : decode cX8_makes 467 = .ok (.aload_n 0, 1) := by decide +kernel
theorem dX8_makes_468 : decode cX8_makes 468 = .ok (.getfield 26, 3) := by decide +kernel
theorem dX8_makes_471 : decode cX8_makes 471 = .ok (.aload_n 0, 1) := by decide +kernel
theorem dX8_makes_472 : decode cX8_makes 472 = .ok (.getfield 142, 3) := by decide +kernel
theorem dX8_makes_475 : decode cX8_makes 475 = .ok (.iaload, 1) := by decide +kernel
theorem dX8_makes_476 : decode cX8_makes 476 = .ok (.iconst 2, 1) := by decide +kernel
theorem dX8_makes_477 : decode cX8_makes 477 = .ok (.if_icmp .ne 7, 3) := by decide +kernel
theorem dX8_makes_480 : decode cX8_makes 480 = .ok (.iconst (-1), 1) := by decide +kernel
theorem dX8_makes_481 : decode cX8_makes 481 = .ok (.goto 15, 3) := by decide +kernel
theorem dX8_makes_484 : decode cX8_makes 484 = .ok (.aload_n 0, 1) := by decide +kernel
theorem dX8_makes_485 : decode cX8_makes 485 = .ok (.getfield 32, 3) := by decide +kernel
theorem dX8_makes_488 : decode cX8_makes 488 = .ok (.aload_n 0, 1) := by decide +kernel
theorem dX8_makes_489 : decode cX8_makes 489 = .ok (.getfield 142, 3) := by decide +kernel
theorem dX8_makes_492 : decode cX8_makes 492 = .ok (.iaload, 1) := by decide +kernel
theorem dX8_makes_493 : decode cX8_makes 493 = .ok (.iload 6, 2) := by decide +kernel
theorem dX8_makes_495 : decode cX8_makes 495 = .ok (.iadd, 1) := by decide +kernel
theorem dX8_makes_496 : decode cX8_makes 496 = .ok (.iastore, 1) := by decide +kernel
theorem dX8_makes_497 : decode cX8_makes 497 = .ok (.aload_n 0, 1) := by decide +kernel
theorem dX8_makes_498 : decode cX8_makes 498 = .ok (.getfield 41, 3) := by decide +kernel
theorem dX8_makes_501 : decode cX8_makes 501 = .ok (.iload 5, 2) := by decide +kernel
theorem dX8_makes_503 : decode cX8_makes 503 = .ok (.iload 6, 2) := by decide +kernel
theorem dX8_makes_505 : decode cX8_makes 505 = .ok (.iadd, 1) := by decide +kernel
theorem dX8_makes_506 : decode cX8_makes 506 = .ok (.aload_n 0, 1) := by decide +kernel
theorem dX8_makes_507 : decode cX8_makes 507 = .ok (.getfield 35, 3) := by decide +kernel
theorem dX8_makes_510 : decode cX8_makes 510 = .ok (.aload_n 0, 1) := by decide +kernel
theorem dX8_makes_511 : decode cX8_makes 511 = .ok (.getfield 142, 3) := by decide +kernel
theorem dX8_makes_514 : decode cX8_makes 514 = .ok (.iaload, 1) := by decide +kernel
theorem dX8_makes_515 : decode cX8_makes 515 = .ok (.iastore, 1) := by decide +kernel
theorem dX8_makes_516 : decode cX8_makes 516 = .ok (.iinc 6 1, 3) := by decide +kernel
theorem dX8_makes_519 : decode cX8_makes 519 = .ok (.goto (-75), 3) := by decide +kernel
theorem dX8_makes_522 : decode cX8_makes 522 = .ok (.iload 5, 2) := by decide +kernel
theorem dX8_makes_524 : decode cX8_makes 524 = .ok (.aload_n 0, 1) := by decide +kernel
theorem dX8_makes_525 : decode cX8_makes 525 = .ok (.getfield 29, 3) := by decide +kernel
theorem dX8_makes_528 : decode cX8_makes 528 = .ok (.aload_n 0, 1) := by decide +kernel
theorem dX8_makes_529 : decode cX8_makes 529 = .ok (.getfield 142, 3) := by decide +kernel
theorem dX8_makes_532 : decode cX8_makes 532 = .ok (.iaload, 1) := by decide +kernel
theorem dX8_makes_533 : decode cX8_makes 533 = .ok (.iadd, 1) := by decide +kernel
theorem dX8_makes_534 : decode cX8_makes 534 = .ok (.istore 5, 2) := by decide +kernel
theorem dX8_makes_536 : decode cX8_makes 536 = .ok (.aload_n 0, 1) := by decide +kernel
theorem dX8_makes_537 : decode cX8_makes 537 = .ok (.dup, 1) := by decide +kernel
theorem dX8_makes_538 : decode cX8_makes 538 = .ok (.getfield 142, 3) := by decide +kernel
theorem dX8_makes_541 : decode cX8_makes 541 = .ok (.iconst 1, 1) := by decide +kernel
theorem dX8_makes_542 : decode cX8_makes 542 = .ok (.iadd, 1) := by decide +kernel
theorem dX8_makes_543 : decode cX8_makes 543 = .ok (.putfield 142, 3) := by decide +kernel
theorem dX8_makes_546 : decode cX8_makes 546 = .ok (.goto (-142), 3) := by decide +kernel
theorem dX8_makes_549 : decode cX8_makes 549 = .ok (.return_, 1) := by decide +kernel
theorem dX8_takes_0 : decode cX8_takes 0 = .ok (.iconst 0, 1) := by decide +kernel
theorem dX8_takes_1 : decode cX8_takes 1 = .ok (.istore 5, 2) := by decide +kernel
theorem dX8_takes_3 : decode cX8_takes 3 = .ok (.iconst 0, 1) := by decide +kernel
theorem dX8_takes_4 : decode cX8_takes 4 = .ok (.istore 6, 2) := by decide +kernel
theorem dX8_takes_6 : decode cX8_takes 6 = .ok (.iload 6, 2) := by decide +kernel
theorem dX8_takes_8 : decode cX8_takes 8 = .ok (.aload_n 0, 1) := by decide +kernel
theorem dX8_takes_9 : decode cX8_takes 9 = .ok (.getfield 16, 3) := by decide +kernel
theorem dX8_takes_12 : decode cX8_takes 12 = .ok (.iload_n 1, 1) := by decide +kernel
theorem dX8_takes_13 : decode cX8_takes 13 = .ok (.iaload, 1) := by decide +kernel
theorem dX8_takes_14 : decode cX8_takes 14 = .ok (.if_icmp .ge 120, 3) := by decide +kernel
theorem dX8_takes_17 : decode cX8_takes 17 = .ok (.aload_n 0, 1) := by decide +kernel
theorem dX8_takes_18 : decode cX8_takes 18 = .ok (.iload_n 1, 1) := by decide +kernel
theorem dX8_takes_19 : decode cX8_takes 19 = .ok (.iload_n 2, 1) := by decide +kernel
theorem dX8_takes_20 : decode cX8_takes 20 = .ok (.iload_n 3, 1) := by decide +kernel
theorem dX8_takes_21 : decode cX8_takes 21 = .ok (.iload 6, 2) := by decide +kernel
theorem dX8_takes_23 : decode cX8_takes 23 = .ok (.invokevirtual 128, 3) := by decide +kernel
theorem dX8_takes_26 : decode cX8_takes 26 = .ok (.istore 7, 2) := by decide +kernel
theorem dX8_takes_28 : decode cX8_takes 28 = .ok (.iload 7, 2) := by decide +kernel
theorem dX8_takes_30 : decode cX8_takes 30 = .ok (.ifCond .ne 7, 3) := by decide +kernel
theorem dX8_takes_33 : decode cX8_takes 33 = .ok (.iconst 1, 1) := by decide +kernel
theorem dX8_takes_34 : decode cX8_takes 34 = .ok (.goto 4, 3) := by decide +kernel
theorem dX8_takes_37 : decode cX8_takes 37 = .ok (.iconst 0, 1) := by decide +kernel
theorem dX8_takes_38 : decode cX8_takes 38 = .ok (.iload 4, 2) := by decide +kernel
theorem dX8_takes_40 : decode cX8_takes 40 = .ok (.ifCond .ne 7, 3) := by decide +kernel
theorem dX8_takes_43 : decode cX8_takes 43 = .ok (.iconst 1, 1) := by decide +kernel
theorem dX8_takes_44 : decode cX8_takes 44 = .ok (.goto 4, 3) := by decide +kernel
theorem dX8_takes_47 : decode cX8_takes 47 = .ok (.iconst 0, 1) := by decide +kernel
theorem dX8_takes_48 : decode cX8_takes 48 = .ok (.if_icmp .eq 6, 3) := by decide +kernel
theorem dX8_takes_51 : decode cX8_takes 51 = .ok (.goto 77, 3) := by decide +kernel
theorem dX8_takes_54 : decode cX8_takes 54 = .ok (.aload_n 0, 1) := by decide +kernel
theorem dX8_takes_55 : decode cX8_takes 55 = .ok (.iload_n 3, 1) := by decide +kernel
theorem dX8_takes_56 : decode cX8_takes 56 = .ok (.iload 6, 2) := by decide +kernel
theorem dX8_takes_58 : decode cX8_takes 58 = .ok (.invokevirtual 132, 3) := by decide +kernel
theorem dX8_takes_61 : decode cX8_takes 61 = .ok (.istore 8, 2) := by decide +kernel
theorem dX8_takes_63 : decode cX8_takes 63 = .ok (.iload 8, 2) := by decide +kernel
theorem dX8_takes_65 : decode cX8_takes 65 = .ok (.iload 5, 2) := by decide +kernel
theorem dX8_takes_67 : decode cX8_takes 67 = .ok (.if_icmp .le 61, 3) := by decide +kernel
theorem dX8_takes_70 : decode cX8_takes 70 = .ok (.iconst 4, 1) := by decide +kernel
theorem dX8_takes_71 : decode cX8_takes 71 = .ok (.iload 4, 2) := by decide +kernel
theorem dX8_takes_73 : decode cX8_takes 73 = .ok (.iadd, 1) := by decide +kernel
theorem dX8_takes_74 : decode cX8_takes 74 = .ok (.aload_n 0, 1) := by decide +kernel
theorem dX8_takes_75 : decode cX8_takes 75 = .ok (.getfield 23, 3) := by decide +kernel
theorem dX8_takes_78 : decode cX8_takes 78 = .ok (.iload_n 3, 1) := by decide +kernel
theorem dX8_takes_79 : decode cX8_takes 79 = .ok (.iload 8, 2) := by decide +kernel
theorem dX8_takes_81 : decode cX8_takes 81 = .ok (.iadd, 1) := by decide +kernel
theorem dX8_takes_82 : decode cX8_takes 82 = .ok (.iaload, 1) := by decide +kernel
theorem dX8_takes_83 : decode cX8_takes 83 = .ok (.iadd, 1) := by decide +kernel
theorem dX8_takes_84 : decode cX8_takes 84 = .ok (.aload_n 0, 1) := by decide +kernel
theorem dX8_takes_85 : decode cX8_takes 85 = .ok (.getfield 23, 3) := by decide +kernel
theorem dX8_takes_88 : decode cX8_takes 88 = .ok (.iload_n 3, 1) := by decide +kernel
theorem dX8_takes_89 : decode cX8_takes 89 = .ok (.iaload, 1) := by decide +kernel
theorem dX8_takes_90 : decode cX8_takes 90 = .ok (.if_icmp .eq 6, 3) := by decide +kernel
theorem dX8_takes_93 : decode cX8_takes 93 = .ok (.goto 29, 3) := by decide +kernel
theorem dX8_takes_96 : decode cX8_takes 96 = .ok (.iload 8, 2) := by decide +kernel
theorem dX8_takes_98 : decode cX8_takes 98 = .ok (.istore 5, 2) := by decide +kernel
theorem dX8_takes_100 : decode cX8_takes 100 = .ok (.aload_n 0, 1) := by decide +kernel
theorem dX8_takes_101 : decode cX8_takes 101 = .ok (.getfield 32, 3) := by decide +kernel
theorem dX8_takes_104 : decode cX8_takes 104 = .ok (.aload_n 0, 1) := by decide +kernel
theorem dX8_takes_105 : decode cX8_takes 105 = .ok (.getfield 142, 3) := by decide +kernel
theorem dX8_takes_108 : decode cX8_takes 108 = .ok (.iload 6, 2) := by decide +kernel
theorem dX8_takes_110 : decode cX8_takes 110 = .ok (.iastore, 1) := by decide +kernel
theorem dX8_takes_111 : decode cX8_takes 111 = .ok (.aload_n 0, 1) := by decide +kernel
theorem dX8_takes_112 : decode cX8_takes 112 = .ok (.getfield 35, 3) := by decide +kernel
theorem dX8_takes_115 : decode cX8_takes 115 = .ok (.aload_n 0, 1) := by decide +kernel
theorem dX8_takes_116 : decode cX8_takes 116 = .ok (.getfield 142, 3) := by decide +kernel
theorem dX8_takes_119 : decode cX8_takes 119 = .ok (.iload 7, 2) := by decide +kernel
theorem dX8_takes_121 : decode cX8_takes 121 = .ok (.iastore, 1) := by decide +kernel
theorem dX8_takes_122 : decode cX8_takes 122 = .ok (.iinc 8 (-1), 3) := by decide +kernel
theorem dX8_takes_125 : decode cX8_takes 125 = .ok (.goto (-62), 3) := by decide +kernel
theorem dX8_takes_128 : decode cX8_takes 128 = .ok (.iinc 6 1, 3) := by decide +kernel
theorem dX8_takes_131 : decode cX8_takes 131 = .ok (.goto (-125), 3) := by decide +kernel
theorem dX8_takes_134 : decode cX8_takes 134 = .ok (.aload_n 0, 1) := by decide +kernel
theorem dX8_takes_135 : decode cX8_takes 135 = .ok (.getfield 26, 3) := by decide +kernel
theorem dX8_takes_138 : decode cX8_takes 138 = .ok (.aload_n 0, 1) := by decide +kernel
theorem dX8_takes_139 : decode cX8_takes 139 = .ok (.getfield 142, 3) := by decide +kernel
theorem dX8_takes_142 : decode cX8_takes 142 = .ok (.iload 4, 2) := by decide +kernel
theorem dX8_takes_144 : decode cX8_takes 144 = .ok (.iastore, 1) := by decide +kernel
theorem dX8_takes_145 : decode cX8_takes 145 = .ok (.aload_n 0, 1) := by decide +kernel
theorem dX8_takes_146 : decode cX8_takes 146 = .ok (.getfield 29, 3) := by decide +kernel
theorem dX8_takes_149 : decode cX8_takes 149 = .ok (.aload_n 0, 1) := by decide +kernel
theorem dX8_takes_150 : decode cX8_takes 150 = .ok (.getfield 142, 3) := by decide +kernel
theorem dX8_takes_153 : decode cX8_takes 153 = .ok (.iload 5, 2) := by decide +kernel
theorem dX8_takes_155 : decode cX8_takes 155 = .ok (.iastore, 1) := by decide +kernel
theorem dX8_takes_156 : decode cX8_takes 156 = .ok (.iload 5, 2) := by decide +kernel
theorem dX8_takes_158 : decode cX8_takes 158 = .ok (.ifCond .le 7, 3) := by decide +kernel
theorem dX8_takes_161 : decode cX8_takes 161 = .ok (.iconst 1, 1) := by decide +kernel
theorem dX8_takes_162 : decode cX8_takes 162 = .ok (.goto 4, 3) := by decide +kernel
theorem dX8_takes_165 : decode cX8_takes 165 = .ok (.iconst 0, 1) := by decide +kernel
theorem dX8_takes_166 : decode cX8_takes 166 = .ok (.ireturn, 1) := by decide +kernel
theorem dX8_adds_0 : decode cX8_adds 0 = .ok (.bipush 30, 2) := by decide +kernel
theorem dX8_adds_2 : decode cX8_adds 2 = .ok (.iload_n 2, 1) := by decide +kernel
theorem dX8_adds_3 : decode cX8_adds 3 = .ok (.iload_n 1, 1) := by decide +kernel
theorem dX8_adds_4 : decode cX8_adds 4 = .ok (.isub, 1) := by decide +kernel
theorem dX8_adds_5 : decode cX8_adds 5 = .ok (.invokestatic 111, 3) := by decide +kernel
theorem dX8_adds_8 : decode cX8_adds 8 = .ok (.istore_n 3, 1) := by decide +kernel
theorem dX8_adds_9 : decode cX8_adds 9 = .ok (.iconst 1, 1) := by decide +kernel
theorem dX8_adds_10 : decode cX8_adds 10 = .ok (.iload_n 3, 1) := by decide +kernel
theorem dX8_adds_11 : decode cX8_adds 11 = .ok (.iadd, 1) := by decide +kernel
theorem dX8_adds_12 : decode cX8_adds 12 = .ok (.aload_n 0, 1) := by decide +kernel
theorem dX8_adds_13 : decode cX8_adds 13 = .ok (.getfield 23, 3) := by decide +kernel
theorem dX8_adds_16 : decode cX8_adds 16 = .ok (.iload_n 1, 1) := by decide +kernel
theorem dX8_adds_17 : decode cX8_adds 17 = .ok (.iload_n 3, 1) := by decide +kernel
theorem dX8_adds_18 : decode cX8_adds 18 = .ok (.iadd, 1) := by decide +kernel
theorem dX8_adds_19 : decode cX8_adds 19 = .ok (.iaload, 1) := by decide +kernel
theorem dX8_adds_20 : decode cX8_adds 20 = .ok (.iadd, 1) := by decide +kernel
theorem dX8_adds_21 : decode cX8_adds 21 = .ok (.aload_n 0, 1) := by decide +kernel
theorem dX8_adds_22 : decode cX8_adds 22 = .ok (.getfield 23, 3) := by decide +kernel
theorem dX8_adds_25 : decode cX8_adds 25 = .ok (.iload_n 1, 1) := by decide +kernel
theorem dX8_adds_26 : decode cX8_adds 26 = .ok (.iaload, 1) := by decide +kernel
theorem dX8_adds_27 : decode cX8_adds 27 = .ok (.if_icmp .eq 9, 3) := by decide +kernel
theorem dX8_adds_30 : decode cX8_adds 30 = .ok (.iinc 3 (-1), 3) := by decide +kernel
theorem dX8_adds_33 : decode cX8_adds 33 = .ok (.goto (-24), 3) := by decide +kernel
theorem dX8_adds_36 : decode cX8_adds 36 = .ok (.aload_n 0, 1) := by decide +kernel
theorem dX8_adds_37 : decode cX8_adds 37 = .ok (.getfield 26, 3) := by decide +kernel
theorem dX8_adds_40 : decode cX8_adds 40 = .ok (.aload_n 0, 1) := by decide +kernel
theorem dX8_adds_41 : decode cX8_adds 41 = .ok (.getfield 142, 3) := by decide +kernel
theorem dX8_adds_44 : decode cX8_adds 44 = .ok (.iconst 2, 1) := by decide +kernel
theorem dX8_adds_45 : decode cX8_adds 45 = .ok (.iastore, 1) := by decide +kernel
theorem dX8_adds_46 : decode cX8_adds 46 = .ok (.aload_n 0, 1) := by decide +kernel
theorem dX8_adds_47 : decode cX8_adds 47 = .ok (.getfield 29, 3) := by decide +kernel
theorem dX8_adds_50 : decode cX8_adds 50 = .ok (.aload_n 0, 1) := by decide +kernel
theorem dX8_adds_51 : decode cX8_adds 51 = .ok (.getfield 142, 3) := by decide +kernel
theorem dX8_adds_54 : decode cX8_adds 54 = .ok (.iload_n 3, 1) := by decide +kernel
theorem dX8_adds_55 : decode cX8_adds 55 = .ok (.iastore, 1) := by decide +kernel
theorem dX8_adds_56 : decode cX8_adds 56 = .ok (.aload_n 0, 1) := by decide +kernel
theorem dX8_adds_57 : decode cX8_adds 57 = .ok (.getfield 32, 3) := by decide +kernel
theorem dX8_adds_60 : decode cX8_adds 60 = .ok (.aload_n 0, 1) := by decide +kernel
theorem dX8_adds_61 : decode cX8_adds 61 = .ok (.getfield 142, 3) := by decide +kernel
theorem dX8_adds_64 : decode cX8_adds 64 = .ok (.iload_n 1, 1) := by decide +kernel
theorem dX8_adds_65 : decode cX8_adds 65 = .ok (.iastore, 1) := by decide +kernel
theorem dX8_adds_66 : decode cX8_adds 66 = .ok (.aload_n 0, 1) := by decide +kernel
theorem dX8_adds_67 : decode cX8_adds 67 = .ok (.getfield 35, 3) := by decide +kernel
theorem dX8_adds_70 : decode cX8_adds 70 = .ok (.aload_n 0, 1) := by decide +kernel
theorem dX8_adds_71 : decode cX8_adds 71 = .ok (.getfield 142, 3) := by decide +kernel
theorem dX8_adds_74 : decode cX8_adds 74 = .ok (.iconst 0, 1) := by decide +kernel
theorem dX8_adds_75 : decode cX8_adds 75 = .ok (.iastore, 1) := by decide +kernel
theorem dX8_adds_76 : decode cX8_adds 76 = .ok (.return_, 1) := by decide +kernel
theorem dX8_cost_0 : decode cX8_cost 0 = .ok (.aload_n 0, 1) := by decide +kernel
theorem dX8_cost_1 : decode cX8_cost 1 = .ok (.iload_n 1, 1) := by decide +kernel
theorem dX8_cost_2 : decode cX8_cost 2 = .ok (.invokevirtual 117, 3) := by decide +kernel
theorem dX8_cost_5 : decode cX8_cost 5 = .ok (.ifCond .eq 11, 3) := by decide +kernel
theorem dX8_cost_8 : decode cX8_cost 8 = .ok (.aload_n 0, 1) := by decide +kernel
theorem dX8_cost_9 : decode cX8_cost 9 = .ok (.iload_n 2, 1) := by decide +kernel
theorem dX8_cost_10 : decode cX8_cost 10 = .ok (.invokevirtual 117, 3) := by decide +kernel
theorem dX8_cost_13 : decode cX8_cost 13 = .ok (.ifCond .ne 5, 3) := by decide +kernel
theorem dX8_cost_16 : decode cX8_cost 16 = .ok (.iconst (-1), 1) := by decide +kernel
theorem dX8_cost_17 : decode cX8_cost 17 = .ok (.ireturn, 1) := by decide +kernel
theorem dX8_cost_18 : decode cX8_cost 18 = .ok (.aload_n 0, 1) := by decide +kernel
theorem dX8_cost_19 : decode cX8_cost 19 = .ok (.iload_n 1, 1) := by decide +kernel
theorem dX8_cost_20 : decode cX8_cost 20 = .ok (.iload_n 2, 1) := by decide +kernel
theorem dX8_cost_21 : decode cX8_cost 21 = .ok (.invokevirtual 153, 3) := by decide +kernel
theorem dX8_cost_24 : decode cX8_cost 24 = .ok (.aload_n 0, 1) := by decide +kernel
theorem dX8_cost_25 : decode cX8_cost 25 = .ok (.getfield 139, 3) := by decide +kernel
theorem dX8_cost_28 : decode cX8_cost 28 = .ok (.ireturn, 1) := by decide +kernel
theorem dX8_step_0 : decode cX8_step 0 = .ok (.aload_n 0, 1) := by decide +kernel
theorem dX8_step_1 : decode cX8_step 1 = .ok (.iload_n 1, 1) := by decide +kernel
theorem dX8_step_2 : decode cX8_step 2 = .ok (.invokevirtual 117, 3) := by decide +kernel
theorem dX8_step_5 : decode cX8_step 5 = .ok (.ifCond .eq 11, 3) := by decide +kernel
theorem dX8_step_8 : decode cX8_step 8 = .ok (.aload_n 0, 1) := by decide +kernel
theorem dX8_step_9 : decode cX8_step 9 = .ok (.iload_n 2, 1) := by decide +kernel
theorem dX8_step_10 : decode cX8_step 10 = .ok (.invokevirtual 117, 3) := by decide +kernel
theorem dX8_step_13 : decode cX8_step 13 = .ok (.ifCond .ne 5, 3) := by decide +kernel
theorem dX8_step_16 : decode cX8_step 16 = .ok (.iconst (-1), 1) := by decide +kernel
theorem dX8_step_17 : decode cX8_step 17 = .ok (.ireturn, 1) := by decide +kernel
theorem dX8_step_18 : decode cX8_step 18 = .ok (.aload_n 0, 1) := by decide +kernel
theorem dX8_step_19 : decode cX8_step 19 = .ok (.iload_n 1, 1) := by decide +kernel
theorem dX8_step_20 : decode cX8_step 20 = .ok (.iload_n 2, 1) := by decide +kernel
theorem dX8_step_21 : decode cX8_step 21 = .ok (.invokevirtual 153, 3) := by decide +kernel
theorem dX8_step_24 : decode cX8_step 24 = .ok (.iload_n 3, 1) := by decide +kernel
theorem dX8_step_25 : decode cX8_step 25 = .ok (.iconst (-1), 1) := by decide +kernel
theorem dX8_step_26 : decode cX8_step 26 = .ok (.if_icmp .ne 8, 3) := by decide +kernel
theorem dX8_step_29 : decode cX8_step 29 = .ok (.aload_n 0, 1) := by decide +kernel
theorem dX8_step_30 : decode cX8_step 30 = .ok (.getfield 142, 3) := by decide +kernel
theorem dX8_step_33 : decode cX8_step 33 = .ok (.ireturn, 1) := by decide +kernel
theorem dX8_step_34 : decode cX8_step 34 = .ok (.iload_n 3, 1) := by decide +kernel
theorem dX8_step_35 : decode cX8_step 35 = .ok (.iconst 0, 1) := by decide +kernel
theorem dX8_step_36 : decode cX8_step 36 = .ok (.aload_n 0, 1) := by decide +kernel
theorem dX8_step_37 : decode cX8_step 37 = .ok (.getfield 142, 3) := by decide +kernel
theorem dX8_step_40 : decode cX8_step 40 = .ok (.iconst 1, 1) := by decide +kernel
theorem dX8_step_41 : decode cX8_step 41 = .ok (.isub, 1) := by decide +kernel
theorem dX8_step_42 : decode cX8_step 42 = .ok (.invokestatic 99, 3) := by decide +kernel
theorem dX8_step_45 : decode cX8_step 45 = .ok (.ifCond .ne 5, 3) := by decide +kernel
theorem dX8_step_48 : decode cX8_step 48 = .ok (.iconst (-1), 1) := by decide +kernel
theorem dX8_step_49 : decode cX8_step 49 = .ok (.ireturn, 1) := by decide +kernel
theorem dX8_step_50 : decode cX8_step 50 = .ok (.iload 4, 2) := by decide +kernel
theorem dX8_step_52 : decode cX8_step 52 = .ok (.ifCond .ne 12, 3) := by decide +kernel
theorem dX8_step_55 : decode cX8_step 55 = .ok (.aload_n 0, 1) := by decide +kernel
theorem dX8_step_56 : decode cX8_step 56 = .ok (.getfield 26, 3) := by decide +kernel
theorem dX8_step_59 : decode cX8_step 59 = .ok (.iload_n 3, 1) := by decide +kernel
theorem dX8_step_60 : decode cX8_step 60 = .ok (.iaload, 1) := by decide +kernel
theorem dX8_step_61 : decode cX8_step 61 = .ok (.goto 49, 3) := by decide +kernel
theorem dX8_step_64 : decode cX8_step 64 = .ok (.iload 4, 2) := by decide +kernel
theorem dX8_step_66 : decode cX8_step 66 = .ok (.iconst 1, 1) := by decide +kernel
theorem dX8_step_67 : decode cX8_step 67 = .ok (.if_icmp .ne 12, 3) := by decide +kernel
theorem dX8_step_70 : decode cX8_step 70 = .ok (.aload_n 0, 1) := by decide +kernel
theorem dX8_step_71 : decode cX8_step 71 = .ok (.getfield 29, 3) := by decide +kernel
theorem dX8_step_74 : decode cX8_step 74 = .ok (.iload_n 3, 1) := by decide +kernel
theorem dX8_step_75 : decode cX8_step 75 = .ok (.iaload, 1) := by decide +kernel
theorem dX8_step_76 : decode cX8_step 76 = .ok (.goto 34, 3) := by decide +kernel
theorem dX8_step_79 : decode cX8_step 79 = .ok (.iload 4, 2) := by decide +kernel
theorem dX8_step_81 : decode cX8_step 81 = .ok (.iconst 2, 1) := by decide +kernel
theorem dX8_step_82 : decode cX8_step 82 = .ok (.if_icmp .ne 12, 3) := by decide +kernel
theorem dX8_step_85 : decode cX8_step 85 = .ok (.aload_n 0, 1) := by decide +kernel
theorem dX8_step_86 : decode cX8_step 86 = .ok (.getfield 32, 3) := by decide +kernel
theorem dX8_step_89 : decode cX8_step 89 = .ok (.iload_n 3, 1) := by decide +kernel
theorem dX8_step_90 : decode cX8_step 90 = .ok (.iaload, 1) := by decide +kernel
theorem dX8_step_91 : decode cX8_step 91 = .ok (.goto 19, 3) := by decide +kernel
theorem dX8_step_94 : decode cX8_step 94 = .ok (.iload 4, 2) := by decide +kernel
theorem dX8_step_96 : decode cX8_step 96 = .ok (.iconst 3, 1) := by decide +kernel
theorem dX8_step_97 : decode cX8_step 97 = .ok (.if_icmp .ne 12, 3) := by decide +kernel
theorem dX8_step_100 : decode cX8_step 100 = .ok (.aload_n 0, 1) := by decide +kernel
theorem dX8_step_101 : decode cX8_step 101 = .ok (.getfield 35, 3) := by decide +kernel
theorem dX8_step_104 : decode cX8_step 104 = .ok (.iload_n 3, 1) := by decide +kernel
theorem dX8_step_105 : decode cX8_step 105 = .ok (.iaload, 1) := by decide +kernel
theorem dX8_step_106 : decode cX8_step 106 = .ok (.goto 4, 3) := by decide +kernel
theorem dX8_step_109 : decode cX8_step 109 = .ok (.iconst (-1), 1) := by decide +kernel
theorem dX8_step_110 : decode cX8_step 110 = .ok (.ireturn, 1) := by decide +kernel
theorem dX8_melt_0 : decode cX8_melt 0 = .ok (.aload_n 0, 1) := by decide +kernel
theorem dX8_melt_1 : decode cX8_melt 1 = .ok (.iload_n 1, 1) := by decide +kernel
theorem dX8_melt_2 : decode cX8_melt 2 = .ok (.invokevirtual 117, 3) := by decide +kernel
theorem dX8_melt_5 : decode cX8_melt 5 = .ok (.ifCond .eq 19, 3) := by decide +kernel
theorem dX8_melt_8 : decode cX8_melt 8 = .ok (.aload_n 0, 1) := by decide +kernel
theorem dX8_melt_9 : decode cX8_melt 9 = .ok (.iload_n 2, 1) := by decide +kernel
theorem dX8_melt_10 : decode cX8_melt 10 = .ok (.invokevirtual 117, 3) := by decide +kernel
theorem dX8_melt_13 : decode cX8_melt 13 = .ok (.ifCond .eq 11, 3) := by decide +kernel
theorem dX8_melt_16 : decode cX8_melt 16 = .ok (.aload_n 0, 1) := by decide +kernel
theorem dX8_melt_17 : decode cX8_melt 17 = .ok (.iload_n 3, 1) := by decide +kernel
theorem dX8_melt_18 : decode cX8_melt 18 = .ok (.invokevirtual 117, 3) := by decide +kernel
theorem dX8_melt_21 : decode cX8_melt 21 = .ok (.ifCond .ne 5, 3) := by decide +kernel
theorem dX8_melt_24 : decode cX8_melt 24 = .ok (.iconst (-1), 1) := by decide +kernel
theorem dX8_melt_25 : decode cX8_melt 25 = .ok (.ireturn, 1) := by decide +kernel
theorem dX8_melt_26 : decode cX8_melt 26 = .ok (.aload_n 0, 1) := by decide +kernel
theorem dX8_melt_27 : decode cX8_melt 27 = .ok (.iload_n 1, 1) := by decide +kernel
theorem dX8_melt_28 : decode cX8_melt 28 = .ok (.iload_n 2, 1) := by decide +kernel
theorem dX8_melt_29 : decode cX8_melt 29 = .ok (.invokevirtual 153, 3) := by decide +kernel
theorem dX8_melt_32 : decode cX8_melt 32 = .ok (.iconst 0, 1) := by decide +kernel
theorem dX8_melt_33 : decode cX8_melt 33 = .ok (.istore 4, 2) := by decide +kernel
theorem dX8_melt_35 : decode cX8_melt 35 = .ok (.iload 4, 2) := by decide +kernel
theorem dX8_melt_37 : decode cX8_melt 37 = .ok (.aload_n 0, 1) := by decide +kernel
theorem dX8_melt_38 : decode cX8_melt 38 = .ok (.getfield 16, 3) := by decide +kernel
theorem dX8_melt_41 : decode cX8_melt 41 = .ok (.iload_n 2, 1) := by decide +kernel
theorem dX8_melt_42 : decode cX8_melt 42 = .ok (.iaload, 1) := by decide +kernel
theorem dX8_melt_43 : decode cX8_melt 43 = .ok (.if_icmp .ge 37, 3) := by decide +kernel
theorem dX8_melt_46 : decode cX8_melt 46 = .ok (.aload_n 0, 1) := by decide +kernel
theorem dX8_melt_47 : decode cX8_melt 47 = .ok (.getfield 44, 3) := by decide +kernel
theorem dX8_melt_50 : decode cX8_melt 50 = .ok (.iload 4, 2) := by decide +kernel
theorem dX8_melt_52 : decode cX8_melt 52 = .ok (.aload_n 0, 1) := by decide +kernel
theorem dX8_melt_53 : decode cX8_melt 53 = .ok (.getfield 38, 3) := by decide +kernel
theorem dX8_melt_56 : decode cX8_melt 56 = .ok (.iload 4, 2) := by decide +kernel
theorem dX8_melt_58 : decode cX8_melt 58 = .ok (.iaload, 1) := by decide +kernel
theorem dX8_melt_59 : decode cX8_melt 59 = .ok (.iastore, 1) := by decide +kernel
theorem dX8_melt_60 : decode cX8_melt 60 = .ok (.aload_n 0, 1) := by decide +kernel
theorem dX8_melt_61 : decode cX8_melt 61 = .ok (.getfield 47, 3) := by decide +kernel
theorem dX8_melt_64 : decode cX8_melt 64 = .ok (.iload 4, 2) := by decide +kernel
theorem dX8_melt_66 : decode cX8_melt 66 = .ok (.aload_n 0, 1) := by decide +kernel
theorem dX8_melt_67 : decode cX8_melt 67 = .ok (.getfield 41, 3) := by decide +kernel
theorem dX8_melt_70 : decode cX8_melt 70 = .ok (.iload 4, 2) := by decide +kernel
theorem dX8_melt_72 : decode cX8_melt 72 = .ok (.iaload, 1) := by decide +kernel
theorem dX8_melt_73 : decode cX8_melt 73 = .ok (.iastore, 1) := by decide +kernel
theorem dX8_melt_74 : decode cX8_melt 74 = .ok (.iinc 4 1, 3) := by decide +kernel
theorem dX8_melt_77 : decode cX8_melt 77 = .ok (.goto (-42), 3) := by decide +kernel
theorem dX8_melt_80 : decode cX8_melt 80 = .ok (.aload_n 0, 1) := by decide +kernel
theorem dX8_melt_81 : decode cX8_melt 81 = .ok (.iload_n 2, 1) := by decide +kernel
theorem dX8_melt_82 : decode cX8_melt 82 = .ok (.iload_n 3, 1) := by decide +kernel
theorem dX8_melt_83 : decode cX8_melt 83 = .ok (.invokevirtual 153, 3) := by decide +kernel
theorem dX8_melt_86 : decode cX8_melt 86 = .ok (.aload_n 0, 1) := by decide +kernel
theorem dX8_melt_87 : decode cX8_melt 87 = .ok (.getfield 16, 3) := by decide +kernel
theorem dX8_melt_90 : decode cX8_melt 90 = .ok (.iload_n 3, 1) := by decide +kernel
theorem dX8_melt_91 : decode cX8_melt 91 = .ok (.iaload, 1) := by decide +kernel
theorem dX8_melt_92 : decode cX8_melt 92 = .ok (.istore 4, 2) := by decide +kernel
theorem dX8_melt_94 : decode cX8_melt 94 = .ok (.iconst 0, 1) := by decide +kernel
theorem dX8_melt_95 : decode cX8_melt 95 = .ok (.istore 5, 2) := by decide +kernel
theorem dX8_melt_97 : decode cX8_melt 97 = .ok (.iload 5, 2) := by decide +kernel
theorem dX8_melt_99 : decode cX8_melt 99 = .ok (.iload 4, 2) := by decide +kernel
theorem dX8_melt_101 : decode cX8_melt 101 = .ok (.if_icmp .ge 83, 3) := by decide +kernel
theorem dX8_melt_104 : decode cX8_melt 104 = .ok (.aload_n 0, 1) := by decide +kernel
theorem dX8_melt_105 : decode cX8_melt 105 = .ok (.getfield 38, 3) := by decide +kernel
theorem dX8_melt_108 : decode cX8_melt 108 = .ok (.iload 5, 2) := by decide +kernel
theorem dX8_melt_110 : decode cX8_melt 110 = .ok (.iaload, 1) := by decide +kernel
theorem dX8_melt_111 : decode cX8_melt 111 = .ok (.istore 6, 2) := by decide +kernel
theorem dX8_melt_113 : decode cX8_melt 113 = .ok (.aload_n 0, 1) := by decide +kernel
theorem dX8_melt_114 : decode cX8_melt 114 = .ok (.getfield 38, 3) := by decide +kernel
theorem dX8_melt_117 : decode cX8_melt 117 = .ok (.iload 5, 2) := by decide +kernel
theorem dX8_melt_119 : decode cX8_melt 119 = .ok (.iload 6, 2) := by decide +kernel
theorem dX8_melt_121 : decode cX8_melt 121 = .ok (.iconst (-1), 1) := by decide +kernel
theorem dX8_melt_122 : decode cX8_melt 122 = .ok (.if_icmp .ne 7, 3) := by decide +kernel
theorem dX8_melt_125 : decode cX8_melt 125 = .ok (.iconst (-1), 1) := by decide +kernel
theorem dX8_melt_126 : decode cX8_melt 126 = .ok (.goto 10, 3) := by decide +kernel
theorem dX8_melt_129 : decode cX8_melt 129 = .ok (.aload_n 0, 1) := by decide +kernel
theorem dX8_melt_130 : decode cX8_melt 130 = .ok (.getfield 44, 3) := by decide +kernel
theorem dX8_melt_133 : decode cX8_melt 133 = .ok (.iload 6, 2) := by decide +kernel
theorem dX8_melt_135 : decode cX8_melt 135 = .ok (.iaload, 1) := by decide +kernel
theorem dX8_melt_136 : decode cX8_melt 136 = .ok (.iastore, 1) := by decide +kernel
theorem dX8_melt_137 : decode cX8_melt 137 = .ok (.aload_n 0, 1) := by decide +kernel
theorem dX8_melt_138 : decode cX8_melt 138 = .ok (.getfield 41, 3) := by decide +kernel
theorem dX8_melt_141 : decode cX8_melt 141 = .ok (.iload 5, 2) := by decide +kernel
theorem dX8_melt_143 : decode cX8_melt 143 = .ok (.aload_n 0, 1) := by decide +kernel
theorem dX8_melt_144 : decode cX8_melt 144 = .ok (.getfield 38, 3) := by decide +kernel
theorem dX8_melt_147 : decode cX8_melt 147 = .ok (.iload 5, 2) := by decide +kernel
theorem dX8_melt_149 : decode cX8_melt 149 = .ok (.iaload, 1) := by decide +kernel
theorem dX8_melt_150 : decode cX8_melt 150 = .ok (.iconst (-1), 1) := by decide +kernel
theorem dX8_melt_151 : decode cX8_melt 151 = .ok (.if_icmp .ne 7, 3) := by decide +kernel
theorem dX8_melt_154 : decode cX8_melt 154 = .ok (.iconst 0, 1) := by decide +kernel
theorem dX8_melt_155 : decode cX8_melt 155 = .ok (.goto 22, 3) := by decide +kernel
theorem dX8_melt_158 : decode cX8_melt 158 = .ok (.aload_n 0, 1) := by decide +kernel
theorem dX8_melt_159 : decode cX8_melt 159 = .ok (.getfield 41, 3) := by decide +kernel
theorem dX8_melt_162 : decode cX8_melt 162 = .ok (.iload 5, 2) := by decide +kernel
theorem dX8_melt_164 : decode cX8_melt 164 = .ok (.iaload, 1) := by decide +kernel
theorem dX8_melt_165 : decode cX8_melt 165 = .ok (.aload_n 0, 1) := by decide +kernel
theorem dX8_melt_166 : decode cX8_melt 166 = .ok (.getfield 47, 3) := by decide +kernel
theorem dX8_melt_169 : decode cX8_melt 169 = .ok (.iload 6, 2) := by decide +kernel
theorem dX8_melt_171 : decode cX8_melt 171 = .ok (.iaload, 1) := by decide +kernel
theorem dX8_melt_172 : decode cX8_melt 172 = .ok (.iadd, 1) := by decide +kernel
theorem dX8_melt_173 : decode cX8_melt 173 = .ok (.sipush 255, 3) := by decide +kernel
theorem dX8_melt_176 : decode cX8_melt 176 = .ok (.iand, 1) := by decide +kernel
theorem dX8_melt_177 : decode cX8_melt 177 = .ok (.iastore, 1) := by decide +kernel
theorem dX8_melt_178 : decode cX8_melt 178 = .ok (.iinc 5 1, 3) := by decide +kernel
theorem dX8_melt_181 : decode cX8_melt 181 = .ok (.goto (-84), 3) := by decide +kernel
theorem dX8_melt_184 : decode cX8_melt 184 = .ok (.aload_n 0, 1) := by decide +kernel
theorem dX8_melt_185 : decode cX8_melt 185 = .ok (.iconst 0, 1) := by decide +kernel
theorem dX8_melt_186 : decode cX8_melt 186 = .ok (.putfield 156, 3) := by decide +kernel
theorem dX8_melt_189 : decode cX8_melt 189 = .ok (.iconst 3, 1) := by decide +kernel
theorem dX8_melt_190 : decode cX8_melt 190 = .ok (.istore 5, 2) := by decide +kernel
theorem dX8_melt_192 : decode cX8_melt 192 = .ok (.iconst 0, 1) := by decide +kernel
theorem dX8_melt_193 : decode cX8_melt 193 = .ok (.istore 6, 2) := by decide +kernel
theorem dX8_melt_195 : decode cX8_melt 195 = .ok (.iload 6, 2) := by decide +kernel
theorem dX8_melt_197 : decode cX8_melt 197 = .ok (.iload 4, 2) := by decide +kernel
theorem dX8_melt_199 : decode cX8_melt 199 = .ok (.if_icmp .ge 263, 3) := by decide +kernel
theorem dX8_melt_202 : decode cX8_melt 202 = .ok (.iconst 1, 1) := by decide +kernel
theorem dX8_melt_203 : decode cX8_melt 203 = .ok (.istore 7, 2) := by decide +kernel
theorem dX8_melt_205 : decode cX8_melt 205 = .ok (.aload_n 0, 1) := by decide +kernel
theorem dX8_melt_206 : decode cX8_melt 206 = .ok (.getfield 38, 3) := by decide +kernel
theorem dX8_melt_209 : decode cX8_melt 209 = .ok (.iload 6, 2) := by decide +kernel
theorem dX8_melt_211 : decode cX8_melt 211 = .ok (.iaload, 1) := by decide +kernel
theorem dX8_melt_212 : decode cX8_melt 212 = .ok (.iconst (-1), 1) := by decide +kernel
theorem dX8_melt_213 : decode cX8_melt 213 = .ok (.if_icmp .ne 7, 3) := by decide +kernel
theorem dX8_melt_216 : decode cX8_melt 216 = .ok (.iconst 1, 1) := by decide +kernel
theorem dX8_melt_217 : decode cX8_melt 217 = .ok (.goto 4, 3) := by decide +kernel
theorem dX8_melt_220 : decode cX8_melt 220 = .ok (.iconst 0, 1) := by decide +kernel
theorem dX8_melt_221 : decode cX8_melt 221 = .ok (.istore 8, 2) := by decide +kernel
theorem dX8_melt_223 : decode cX8_melt 223 = .ok (.iload 8, 2) := by decide +kernel
theorem dX8_melt_225 : decode cX8_melt 225 = .ok (.ifCond .eq 40, 3) := by decide +kernel
theorem dX8_melt_228 : decode cX8_melt 228 = .ok (.iload 6, 2) := by decide +kernel
theorem dX8_melt_230 : decode cX8_melt 230 = .ok (.iload 7, 2) := by decide +kernel
theorem dX8_melt_232 : decode cX8_melt 232 = .ok (.iadd, 1) := by decide +kernel
theorem dX8_melt_233 : decode cX8_melt 233 = .ok (.iload 4, 2) := by decide +kernel
theorem dX8_melt_235 : decode cX8_melt 235 = .ok (.if_icmp .ge 89, 3) := by decide +kernel
theorem dX8_melt_238 : decode cX8_melt 238 = .ok (.iload 7, 2) := by decide +kernel
theorem dX8_melt_240 : decode cX8_melt 240 = .ok (.bipush 30, 2) := by decide +kernel
theorem dX8_melt_242 : decode cX8_melt 242 = .ok (.if_icmp .ge 82, 3) := by decide +kernel
theorem dX8_melt_245 : decode cX8_melt 245 = .ok (.aload_n 0, 1) := by decide +kernel
theorem dX8_melt_246 : decode cX8_melt 246 = .ok (.getfield 38, 3) := by decide +kernel
theorem dX8_melt_249 : decode cX8_melt 249 = .ok (.iload 6, 2) := by decide +kernel
theorem dX8_melt_251 : decode cX8_melt 251 = .ok (.iload 7, 2) := by decide +kernel
theorem dX8_melt_253 : decode cX8_melt 253 = .ok (.iadd, 1) := by decide +kernel
theorem dX8_melt_254 : decode cX8_melt 254 = .ok (.iaload, 1) := by decide +kernel
theorem dX8_melt_255 : decode cX8_melt 255 = .ok (.iconst (-1), 1) := by decide +kernel
theorem dX8_melt_256 : decode cX8_melt 256 = .ok (.if_icmp .ne 68, 3) := by decide +kernel
theorem dX8_melt_259 : decode cX8_melt 259 = .ok (.iinc 7 1, 3) := by decide +kernel
theorem dX8_melt_262 : decode cX8_melt 262 = .ok (.goto (-34), 3) := by decide +kernel
theorem dX8_melt_265 : decode cX8_melt 265 = .ok (.iload 6, 2) := by decide +kernel
theorem dX8_melt_267 : decode cX8_melt 267 = .ok (.iload 7, 2) := by decide +kernel
theorem dX8_melt_269 : decode cX8_melt 269 = .ok (.iadd, 1) := by decide +kernel
theorem dX8_melt_270 : decode cX8_melt 270 = .ok (.iload 4, 2) := by decide +kernel
theorem dX8_melt_272 : decode cX8_melt 272 = .ok (.if_icmp .ge 52, 3) := by decide +kernel
theorem dX8_melt_275 : decode cX8_melt 275 = .ok (.aload_n 0, 1) := by decide +kernel
theorem dX8_melt_276 : decode cX8_melt 276 = .ok (.getfield 38, 3) := by decide +kernel
theorem dX8_melt_279 : decode cX8_melt 279 = .ok (.iload 6, 2) := by decide +kernel
theorem dX8_melt_281 : decode cX8_melt 281 = .ok (.iload 7, 2) := by decide +kernel
theorem dX8_melt_283 : decode cX8_melt 283 = .ok (.iadd, 1) := by decide +kernel
theorem dX8_melt_284 : decode cX8_melt 284 = .ok (.iaload, 1) := by decide +kernel
theorem dX8_melt_285 : decode cX8_melt 285 = .ok (.aload_n 0, 1) := by decide +kernel
theorem dX8_melt_286 : decode cX8_melt 286 = .ok (.getfield 38, 3) := by decide +kernel
theorem dX8_melt_289 : decode cX8_melt 289 = .ok (.iload 6, 2) := by decide +kernel
theorem dX8_melt_291 : decode cX8_melt 291 = .ok (.iaload, 1) := by decide +kernel
theorem dX8_melt_292 : decode cX8_melt 292 = .ok (.iload 7, 2) := by decide +kernel
theorem dX8_melt_294 : decode cX8_melt 294 = .ok (.iadd, 1) := by decide +kernel
theorem dX8_melt_295 : decode cX8_melt 295 = .ok (.if_icmp .ne 29, 3) := by decide +kernel
theorem dX8_melt_298 : decode cX8_melt 298 = .ok (.aload_n 0, 1) := by decide +kernel
theorem dX8_melt_299 : decode cX8_melt 299 = .ok (.getfield 41, 3) := by decide +kernel
theorem dX8_melt_302 : decode cX8_melt 302 = .ok (.iload 6, 2) := by decide +kernel
theorem dX8_melt_304 : decode cX8_melt 304 = .ok (.iload 7, 2) := by decide +kernel
theorem dX8_melt_306 : decode cX8_melt 306 = .ok (.iadd, 1) := by decide +kernel
theorem dX8_melt_307 : decode cX8_melt 307 = .ok (.iaload, 1) := by decide +kernel
theorem dX8_melt_308 : decode cX8_melt 308 = .ok (.aload_n 0, 1) := by decide +kernel
theorem dX8_melt_309 : decode cX8_melt 309 = .ok (.getfield 41, 3) := by decide +kernel
theorem dX8_melt_312 : decode cX8_melt 312 = .ok (.iload 6, 2) := by decide +kernel
theorem dX8_melt_314 : decode cX8_melt 314 = .ok (.iaload, 1) := by decide +kernel
theorem dX8_melt_315 : decode cX8_melt 315 = .ok (.if_icmp .ne 9, 3) := by decide +kernel
theorem dX8_melt_318 : decode cX8_melt 318 = .ok (.iinc 7 1, 3) := by decide +kernel
theorem dX8_melt_321 : decode cX8_melt 321 = .ok (.goto (-56), 3) := by decide +kernel
theorem dX8_melt_324 : decode cX8_melt 324 = .ok (.aload_n 0, 1) := by decide +kernel
theorem dX8_melt_325 : decode cX8_melt 325 = .ok (.getfield 50, 3) := by decide +kernel
theorem dX8_melt_328 : decode cX8_melt 328 = .ok (.aload_n 0, 1) := by decide +kernel
theorem dX8_melt_329 : decode cX8_melt 329 = .ok (.getfield 156, 3) := by decide +kernel
theorem dX8_melt_332 : decode cX8_melt 332 = .ok (.iload 8, 2) := by decide +kernel
theorem dX8_melt_334 : decode cX8_melt 334 = .ok (.ifCond .eq 7, 3) := by decide +kernel
theorem dX8_melt_337 : decode cX8_melt 337 = .ok (.iconst 2, 1) := by decide +kernel
theorem dX8_melt_338 : decode cX8_melt 338 = .ok (.goto 18, 3) := by decide +kernel
theorem dX8_melt_341 : decode cX8_melt 341 = .ok (.aload_n 0, 1) := by decide +kernel
theorem dX8_melt_342 : decode cX8_melt 342 = .ok (.getfield 41, 3) := by decide +kernel
theorem dX8_melt_345 : decode cX8_melt 345 = .ok (.iload 6, 2) := by decide +kernel
theorem dX8_melt_347 : decode cX8_melt 347 = .ok (.iaload, 1) := by decide +kernel
theorem dX8_melt_348 : decode cX8_melt 348 = .ok (.ifCond .ne 7, 3) := by decide +kernel
theorem dX8_melt_351 : decode cX8_melt 351 = .ok (.iconst 0, 1) := by decide +kernel
theorem dX8_melt_352 : decode cX8_melt 352 = .ok (.goto 4, 3) := by decide +kernel
theorem dX8_melt_355 : decode cX8_melt 355 = .ok (.iconst 1, 1) := by decide +kernel
theorem dX8_melt_356 : decode cX8_melt 356 = .ok (.iastore, 1) := by decide +kernel
theorem dX8_melt_357 : decode cX8_melt 357 = .ok (.aload_n 0, 1) := by decide +kernel
theorem dX8_melt_358 : decode cX8_melt 358 = .ok (.getfield 53, 3) := by decide +kernel
theorem dX8_melt_361 : decode cX8_melt 361 = .ok (.aload_n 0, 1) := by decide +kernel
theorem dX8_melt_362 : decode cX8_melt 362 = .ok (.getfield 156, 3) := by decide +kernel
theorem dX8_melt_365 : decode cX8_melt 365 = .ok (.iload 7, 2) := by decide +kernel
theorem dX8_melt_367 : decode cX8_melt 367 = .ok (.iastore, 1) := by decide +kernel
theorem dX8_melt_368 : decode cX8_melt 368 = .ok (.aload_n 0, 1) := by decide +kernel
theorem dX8_melt_369 : decode cX8_melt 369 = .ok (.getfield 56, 3) := by decide +kernel
theorem dX8_melt_372 : decode cX8_melt 372 = .ok (.aload_n 0, 1) := by decide +kernel
theorem dX8_melt_373 : decode cX8_melt 373 = .ok (.getfield 156, 3) := by decide +kernel
theorem dX8_melt_376 : decode cX8_melt 376 = .ok (.iload 8, 2) := by decide +kernel
theorem dX8_melt_378 : decode cX8_melt 378 = .ok (.ifCond .eq 8, 3) := by decide +kernel
theorem dX8_melt_381 : decode cX8_melt 381 = .ok (.iload 6, 2) := by decide +kernel
theorem dX8_melt_383 : decode cX8_melt 383 = .ok (.goto 10, 3) := by decide +kernel
theorem dX8_melt_386 : decode cX8_melt 386 = .ok (.aload_n 0, 1) := by decide +kernel
theorem dX8_melt_387 : decode cX8_melt 387 = .ok (.getfield 38, 3) := by decide +kernel
theorem dX8_melt_390 : decode cX8_melt 390 = .ok (.iload 6, 2) := by decide +kernel
theorem dX8_melt_392 : decode cX8_melt 392 = .ok (.iaload, 1) := by decide +kernel
theorem dX8_melt_393 : decode cX8_melt 393 = .ok (.iastore, 1) := by decide +kernel
theorem dX8_melt_394 : decode cX8_melt 394 = .ok (.aload_n 0, 1) := by decide +kernel
theorem dX8_melt_395 : decode cX8_melt 395 = .ok (.getfield 59, 3) := by decide +kernel
theorem dX8_melt_398 : decode cX8_melt 398 = .ok (.aload_n 0, 1) := by decide +kernel
theorem dX8_melt_399 : decode cX8_melt 399 = .ok (.getfield 156, 3) := by decide +kernel
theorem dX8_melt_402 : decode cX8_melt 402 = .ok (.aload_n 0, 1) := by decide +kernel
theorem dX8_melt_403 : decode cX8_melt 403 = .ok (.getfield 41, 3) := by decide +kernel
theorem dX8_melt_406 : decode cX8_melt 406 = .ok (.iload 6, 2) := by decide +kernel
theorem dX8_melt_408 : decode cX8_melt 408 = .ok (.iaload, 1) := by decide +kernel
theorem dX8_melt_409 : decode cX8_melt 409 = .ok (.iastore, 1) := by decide +kernel
theorem dX8_melt_410 : decode cX8_melt 410 = .ok (.iload 5, 2) := by decide +kernel
theorem dX8_melt_412 : decode cX8_melt 412 = .ok (.iload 8, 2) := by decide +kernel
theorem dX8_melt_414 : decode cX8_melt 414 = .ok (.ifCond .eq 10, 3) := by decide +kernel
theorem dX8_melt_417 : decode cX8_melt 417 = .ok (.iconst 1, 1) := by decide +kernel
theorem dX8_melt_418 : decode cX8_melt 418 = .ok (.iload 7, 2) := by decide +kernel
theorem dX8_melt_420 : decode cX8_melt 420 = .ok (.iadd, 1) := by decide +kernel
theorem dX8_melt_421 : decode cX8_melt 421 = .ok (.goto 18, 3) := by decide +kernel
theorem dX8_melt_424 : decode cX8_melt 424 = .ok (.aload_n 0, 1) := by decide +kernel
theorem dX8_melt_425 : decode cX8_melt 425 = .ok (.getfield 41, 3) := by decide +kernel
theorem dX8_melt_428 : decode cX8_melt 428 = .ok (.iload 6, 2) := by decide +kernel
theorem dX8_melt_430 : decode cX8_melt 430 = .ok (.iaload, 1) := by decide +kernel
theorem dX8_melt_431 : decode cX8_melt 431 = .ok (.ifCond .ne 7, 3) := by decide +kernel
theorem dX8_melt_434 : decode cX8_melt 434 = .ok (.iconst 4, 1) := by decide +kernel
theorem dX8_melt_435 : decode cX8_melt 435 = .ok (.goto 4, 3) := by decide +kernel
theorem dX8_melt_438 : decode cX8_melt 438 = .ok (.iconst 5, 1) := by decide +kernel
theorem dX8_melt_439 : decode cX8_melt 439 = .ok (.iadd, 1) := by decide +kernel
theorem dX8_melt_440 : decode cX8_melt 440 = .ok (.istore 5, 2) := by decide +kernel
theorem dX8_melt_442 : decode cX8_melt 442 = .ok (.aload_n 0, 1) := by decide +kernel
theorem dX8_melt_443 : decode cX8_melt 443 = .ok (.dup, 1) := by decide +kernel
theorem dX8_melt_444 : decode cX8_melt 444 = .ok (.getfield 156, 3) := by decide +kernel
theorem dX8_melt_447 : decode cX8_melt 447 = .ok (.iconst 1, 1) := by decide +kernel
theorem dX8_melt_448 : decode cX8_melt 448 = .ok (.iadd, 1) := by decide +kernel
theorem dX8_melt_449 : decode cX8_melt 449 = .ok (.putfield 156, 3) := by decide +kernel
theorem dX8_melt_452 : decode cX8_melt 452 = .ok (.iload 6, 2) := by decide +kernel
theorem dX8_melt_454 : decode cX8_melt 454 = .ok (.iload 7, 2) := by decide +kernel
theorem dX8_melt_456 : decode cX8_melt 456 = .ok (.iadd, 1) := by decide +kernel
theorem dX8_melt_457 : decode cX8_melt 457 = .ok (.istore 6, 2) := by decide +kernel
theorem dX8_melt_459 : decode cX8_melt 459 = .ok (.goto (-264), 3) := by decide +kernel
theorem dX8_melt_462 : decode cX8_melt 462 = .ok (.iload 5, 2) := by decide +kernel
theorem dX8_melt_464 : decode cX8_melt 464 = .ok (.ireturn, 1) := by decide +kernel
theorem dX8_melted_0 : decode cX8_melted 0 = .ok (.aload_n 0, 1) := by decide +kernel
theorem dX8_melted_1 : decode cX8_melted 1 = .ok (.getfield 156, 3) := by decide +kernel
theorem dX8_melted_4 : decode cX8_melted 4 = .ok (.ifCond .ne 5, 3) := by decide +kernel
theorem dX8_melted_7 : decode cX8_melted 7 = .ok (.iconst (-1), 1) := by decide +kernel
theorem dX8_melted_8 : decode cX8_melted 8 = .ok (.ireturn, 1) := by decide +kernel
theorem dX8_melted_9 : decode cX8_melted 9 = .ok (.iload_n 1, 1) := by decide +kernel
theorem dX8_melted_10 : decode cX8_melted 10 = .ok (.iconst (-1), 1) := by decide +kernel
theorem dX8_melted_11 : decode cX8_melted 11 = .ok (.if_icmp .ne 8, 3) := by decide +kernel
theorem dX8_melted_14 : decode cX8_melted 14 = .ok (.aload_n 0, 1) := by decide +kernel
theorem dX8_melted_15 : decode cX8_melted 15 = .ok (.getfield 156, 3) := by decide +kernel
theorem dX8_melted_18 : decode cX8_melted 18 = .ok (.ireturn, 1) := by decide +kernel
theorem dX8_melted_19 : decode cX8_melted 19 = .ok (.iload_n 1, 1) := by decide +kernel
theorem dX8_melted_20 : decode cX8_melted 20 = .ok (.iconst 0, 1) := by decide +kernel
theorem dX8_melted_21 : decode cX8_melted 21 = .ok (.aload_n 0, 1) := by decide +kernel
theorem dX8_melted_22 : decode cX8_melted 22 = .ok (.getfield 156, 3) := by decide +kernel
theorem dX8_melted_25 : decode cX8_melted 25 = .ok (.iconst 1, 1) := by decide +kernel
theorem dX8_melted_26 : decode cX8_melted 26 = .ok (.isub, 1) := by decide +kernel
theorem dX8_melted_27 : decode cX8_melted 27 = .ok (.invokestatic 99, 3) := by decide +kernel
theorem dX8_melted_30 : decode cX8_melted 30 = .ok (.ifCond .ne 5, 3) := by decide +kernel
theorem dX8_melted_33 : decode cX8_melted 33 = .ok (.iconst (-1), 1) := by decide +kernel
theorem dX8_melted_34 : decode cX8_melted 34 = .ok (.ireturn, 1) := by decide +kernel
theorem dX8_melted_35 : decode cX8_melted 35 = .ok (.iload_n 2, 1) := by decide +kernel
theorem dX8_melted_36 : decode cX8_melted 36 = .ok (.ifCond .ne 12, 3) := by decide +kernel
theorem dX8_melted_39 : decode cX8_melted 39 = .ok (.aload_n 0, 1) := by decide +kernel
theorem dX8_melted_40 : decode cX8_melted 40 = .ok (.getfield 50, 3) := by decide +kernel
theorem dX8_melted_43 : decode cX8_melted 43 = .ok (.iload_n 1, 1) := by decide +kernel
theorem dX8_melted_44 : decode cX8_melted 44 = .ok (.iaload, 1) := by decide +kernel
theorem dX8_melted_45 : decode cX8_melted 45 = .ok (.goto 46, 3) := by decide +kernel
theorem dX8_melted_48 : decode cX8_melted 48 = .ok (.iload_n 2, 1) := by decide +kernel
theorem dX8_melted_49 : decode cX8_melted 49 = .ok (.iconst 1, 1) := by decide +kernel
theorem dX8_melted_50 : decode cX8_melted 50 = .ok (.if_icmp .ne 12, 3) := by decide +kernel
theorem dX8_melted_53 : decode cX8_melted 53 = .ok (.aload_n 0, 1) := by decide +kernel
theorem dX8_melted_54 : decode cX8_melted 54 = .ok (.getfield 53, 3) := by decide +kernel
theorem dX8_melted_57 : decode cX8_melted 57 = .ok (.iload_n 1, 1) := by decide +kernel
theorem dX8_melted_58 : decode cX8_melted 58 = .ok (.iaload, 1) := by decide +kernel
theorem dX8_melted_59 : decode cX8_melted 59 = .ok (.goto 32, 3) := by decide +kernel
theorem dX8_melted_62 : decode cX8_melted 62 = .ok (.iload_n 2, 1) := by decide +kernel
theorem dX8_melted_63 : decode cX8_melted 63 = .ok (.iconst 2, 1) := by decide +kernel
theorem dX8_melted_64 : decode cX8_melted 64 = .ok (.if_icmp .ne 12, 3) := by decide +kernel
theorem dX8_melted_67 : decode cX8_melted 67 = .ok (.aload_n 0, 1) := by decide +kernel
theorem dX8_melted_68 : decode cX8_melted 68 = .ok (.getfield 56, 3) := by decide +kernel
theorem dX8_melted_71 : decode cX8_melted 71 = .ok (.iload_n 1, 1) := by decide +kernel
theorem dX8_melted_72 : decode cX8_melted 72 = .ok (.iaload, 1) := by decide +kernel
theorem dX8_melted_73 : decode cX8_melted 73 = .ok (.goto 18, 3) := by decide +kernel
theorem dX8_melted_76 : decode cX8_melted 76 = .ok (.iload_n 2, 1) := by decide +kernel
theorem dX8_melted_77 : decode cX8_melted 77 = .ok (.iconst 3, 1) := by decide +kernel
theorem dX8_melted_78 : decode cX8_melted 78 = .ok (.if_icmp .ne 12, 3) := by decide +kernel
theorem dX8_melted_81 : decode cX8_melted 81 = .ok (.aload_n 0, 1) := by decide +kernel
theorem dX8_melted_82 : decode cX8_melted 82 = .ok (.getfield 59, 3) := by decide +kernel
theorem dX8_melted_85 : decode cX8_melted 85 = .ok (.iload_n 1, 1) := by decide +kernel
theorem dX8_melted_86 : decode cX8_melted 86 = .ok (.iaload, 1) := by decide +kernel
theorem dX8_melted_87 : decode cX8_melted 87 = .ok (.goto 4, 3) := by decide +kernel
theorem dX8_melted_90 : decode cX8_melted 90 = .ok (.iconst (-1), 1) := by decide +kernel
theorem dX8_melted_91 : decode cX8_melted 91 = .ok (.ireturn, 1) := by decide +kernel
theorem dX8_keeps_0 : decode cX8_keeps 0 = .ok (.iconst 0, 1) := by decide +kernel
theorem dX8_keeps_1 : decode cX8_keeps 1 = .ok (.istore_n 3, 1) := by decide +kernel
theorem dX8_keeps_2 : decode cX8_keeps 2 = .ok (.iload_n 3, 1) := by decide +kernel
theorem dX8_keeps_3 : decode cX8_keeps 3 = .ok (.bipush 120, 2) := by decide +kernel
theorem dX8_keeps_5 : decode cX8_keeps 5 = .ok (.if_icmp .ge 16, 3) := by decide +kernel
theorem dX8_keeps_8 : decode cX8_keeps 8 = .ok (.aload_n 0, 1) := by decide +kernel
theorem dX8_keeps_9 : decode cX8_keeps 9 = .ok (.getfield 62, 3) := by decide +kernel
theorem dX8_keeps_12 : decode cX8_keeps 12 = .ok (.iload_n 3, 1) := by decide +kernel
theorem dX8_keeps_13 : decode cX8_keeps 13 = .ok (.iconst 0, 1) := by decide +kernel
theorem dX8_keeps_14 : decode cX8_keeps 14 = .ok (.bastore, 1) := by decide +kernel
theorem dX8_keeps_15 : decode cX8_keeps 15 = .ok (.iinc 3 1, 3) := by decide +kernel
theorem dX8_keeps_18 : decode cX8_keeps 18 = .ok (.goto (-16), 3) := by decide +kernel
theorem dX8_keeps_21 : decode cX8_keeps 21 = .ok (.iconst 0, 1) := by decide +kernel
theorem dX8_keeps_22 : decode cX8_keeps 22 = .ok (.istore_n 3, 1) := by decide +kernel
theorem dX8_keeps_23 : decode cX8_keeps 23 = .ok (.iload_n 3, 1) := by decide +kernel
theorem dX8_keeps_24 : decode cX8_keeps 24 = .ok (.iload_n 1, 1) := by decide +kernel
theorem dX8_keeps_25 : decode cX8_keeps 25 = .ok (.if_icmp .ge 107, 3) := by decide +kernel
theorem dX8_keeps_28 : decode cX8_keeps 28 = .ok (.aload_n 0, 1) := by decide +kernel
theorem dX8_keeps_29 : decode cX8_keeps 29 = .ok (.getfield 38, 3) := by decide +kernel
theorem dX8_keeps_32 : decode cX8_keeps 32 = .ok (.iload_n 3, 1) := by decide +kernel
theorem dX8_keeps_33 : decode cX8_keeps 33 = .ok (.iaload, 1) := by decide +kernel
theorem dX8_keeps_34 : decode cX8_keeps 34 = .ok (.istore 4, 2) := by decide +kernel
theorem dX8_keeps_36 : decode cX8_keeps 36 = .ok (.iload 4, 2) := by decide +kernel
theorem dX8_keeps_38 : decode cX8_keeps 38 = .ok (.iconst (-1), 1) := by decide +kernel
theorem dX8_keeps_39 : decode cX8_keeps 39 = .ok (.if_icmp .ne 6, 3) := by decide +kernel
theorem dX8_keeps_42 : decode cX8_keeps 42 = .ok (.goto 84, 3) := by decide +kernel
theorem dX8_keeps_45 : decode cX8_keeps 45 = .ok (.iload_n 3, 1) := by decide +kernel
theorem dX8_keeps_46 : decode cX8_keeps 46 = .ok (.iload 4, 2) := by decide +kernel
theorem dX8_keeps_48 : decode cX8_keeps 48 = .ok (.if_icmp .ne 20, 3) := by decide +kernel
theorem dX8_keeps_51 : decode cX8_keeps 51 = .ok (.aload_n 0, 1) := by decide +kernel
theorem dX8_keeps_52 : decode cX8_keeps 52 = .ok (.getfield 41, 3) := by decide +kernel
theorem dX8_keeps_55 : decode cX8_keeps 55 = .ok (.iload_n 3, 1) := by decide +kernel
theorem dX8_keeps_56 : decode cX8_keeps 56 = .ok (.iaload, 1) := by decide +kernel
theorem dX8_keeps_57 : decode cX8_keeps 57 = .ok (.ifCond .eq 7, 3) := by decide +kernel
theorem dX8_keeps_60 : decode cX8_keeps 60 = .ok (.iconst 1, 1) := by decide +kernel
theorem dX8_keeps_61 : decode cX8_keeps 61 = .ok (.goto 36, 3) := by decide +kernel
theorem dX8_keeps_64 : decode cX8_keeps 64 = .ok (.iconst 0, 1) := by decide +kernel
theorem dX8_keeps_65 : decode cX8_keeps 65 = .ok (.goto 32, 3) := by decide +kernel
theorem dX8_keeps_68 : decode cX8_keeps 68 = .ok (.iload_n 2, 1) := by decide +kernel
theorem dX8_keeps_69 : decode cX8_keeps 69 = .ok (.ifCond .eq 17, 3) := by decide +kernel
theorem dX8_keeps_72 : decode cX8_keeps 72 = .ok (.iload_n 3, 1) := by decide +kernel
theorem dX8_keeps_73 : decode cX8_keeps 73 = .ok (.iload 4, 2) := by decide +kernel
theorem dX8_keeps_75 : decode cX8_keeps 75 = .ok (.if_icmp .ge 7, 3) := by decide +kernel
theorem dX8_keeps_78 : decode cX8_keeps 78 = .ok (.iconst 1, 1) := by decide +kernel
theorem dX8_keeps_79 : decode cX8_keeps 79 = .ok (.goto 18, 3) := by decide +kernel
theorem dX8_keeps_82 : decode cX8_keeps 82 = .ok (.iconst 0, 1) := by decide +kernel
theorem dX8_keeps_83 : decode cX8_keeps 83 = .ok (.goto 14, 3) := by decide +kernel
theorem dX8_keeps_86 : decode cX8_keeps 86 = .ok (.iload_n 3, 1) := by decide +kernel
theorem dX8_keeps_87 : decode cX8_keeps 87 = .ok (.iload 4, 2) := by decide +kernel
theorem dX8_keeps_89 : decode cX8_keeps 89 = .ok (.if_icmp .le 7, 3) := by decide +kernel
theorem dX8_keeps_92 : decode cX8_keeps 92 = .ok (.iconst 1, 1) := by decide +kernel
theorem dX8_keeps_93 : decode cX8_keeps 93 = .ok (.goto 4, 3) := by decide +kernel
theorem dX8_keeps_96 : decode cX8_keeps 96 = .ok (.iconst 0, 1) := by decide +kernel
theorem dX8_keeps_97 : decode cX8_keeps 97 = .ok (.istore 5, 2) := by decide +kernel
theorem dX8_keeps_99 : decode cX8_keeps 99 = .ok (.aload_n 0, 1) := by decide +kernel
theorem dX8_keeps_100 : decode cX8_keeps 100 = .ok (.getfield 62, 3) := by decide +kernel
theorem dX8_keeps_103 : decode cX8_keeps 103 = .ok (.iload 4, 2) := by decide +kernel
theorem dX8_keeps_105 : decode cX8_keeps 105 = .ok (.aload_n 0, 1) := by decide +kernel
theorem dX8_keeps_106 : decode cX8_keeps 106 = .ok (.getfield 62, 3) := by decide +kernel
theorem dX8_keeps_109 : decode cX8_keeps 109 = .ok (.iload 4, 2) := by decide +kernel
theorem dX8_keeps_111 : decode cX8_keeps 111 = .ok (.baload, 1) := by decide +kernel
theorem dX8_keeps_112 : decode cX8_keeps 112 = .ok (.ifCond .ne 8, 3) := by decide +kernel
theorem dX8_keeps_115 : decode cX8_keeps 115 = .ok (.iload 5, 2) := by decide +kernel
theorem dX8_keeps_117 : decode cX8_keeps 117 = .ok (.ifCond .eq 7, 3) := by decide +kernel
theorem dX8_keeps_120 : decode cX8_keeps 120 = .ok (.iconst 1, 1) := by decide +kernel
theorem dX8_keeps_121 : decode cX8_keeps 121 = .ok (.goto 4, 3) := by decide +kernel
theorem dX8_keeps_124 : decode cX8_keeps 124 = .ok (.iconst 0, 1) := by decide +kernel
theorem dX8_keeps_125 : decode cX8_keeps 125 = .ok (.bastore, 1) := by decide +kernel
theorem dX8_keeps_126 : decode cX8_keeps 126 = .ok (.iinc 3 1, 3) := by decide +kernel
theorem dX8_keeps_129 : decode cX8_keeps 129 = .ok (.goto (-106), 3) := by decide +kernel
theorem dX8_keeps_132 : decode cX8_keeps 132 = .ok (.iconst 0, 1) := by decide +kernel
theorem dX8_keeps_133 : decode cX8_keeps 133 = .ok (.istore_n 3, 1) := by decide +kernel
theorem dX8_keeps_134 : decode cX8_keeps 134 = .ok (.iconst 0, 1) := by decide +kernel
theorem dX8_keeps_135 : decode cX8_keeps 135 = .ok (.istore 4, 2) := by decide +kernel
theorem dX8_keeps_137 : decode cX8_keeps 137 = .ok (.iload 4, 2) := by decide +kernel
theorem dX8_keeps_139 : decode cX8_keeps 139 = .ok (.bipush 120, 2) := by decide +kernel
theorem dX8_keeps_141 : decode cX8_keeps 141 = .ok (.if_icmp .ge 27, 3) := by decide +kernel
theorem dX8_keeps_144 : decode cX8_keeps 144 = .ok (.iload_n 3, 1) := by decide +kernel
theorem dX8_keeps_145 : decode cX8_keeps 145 = .ok (.aload_n 0, 1) := by decide +kernel
theorem dX8_keeps_146 : decode cX8_keeps 146 = .ok (.getfield 62, 3) := by decide +kernel
theorem dX8_keeps_149 : decode cX8_keeps 149 = .ok (.iload 4, 2) := by decide +kernel
theorem dX8_keeps_151 : decode cX8_keeps 151 = .ok (.baload, 1) := by decide +kernel
theorem dX8_keeps_152 : decode cX8_keeps 152 = .ok (.ifCond .eq 7, 3) := by decide +kernel
theorem dX8_keeps_155 : decode cX8_keeps 155 = .ok (.iconst 1, 1) := by decide +kernel
theorem dX8_keeps_156 : decode cX8_keeps 156 = .ok (.goto 4, 3) := by decide +kernel
theorem dX8_keeps_159 : decode cX8_keeps 159 = .ok (.iconst 0, 1) := by decide +kernel
theorem dX8_keeps_160 : decode cX8_keeps 160 = .ok (.iadd, 1) := by decide +kernel
theorem dX8_keeps_161 : decode cX8_keeps 161 = .ok (.istore_n 3, 1) := by decide +kernel
theorem dX8_keeps_162 : decode cX8_keeps 162 = .ok (.iinc 4 1, 3) := by decide +kernel
theorem dX8_keeps_165 : decode cX8_keeps 165 = .ok (.goto (-28), 3) := by decide +kernel
theorem dX8_keeps_168 : decode cX8_keeps 168 = .ok (.iload_n 3, 1) := by decide +kernel
theorem dX8_keeps_169 : decode cX8_keeps 169 = .ok (.ireturn, 1) := by decide +kernel
theorem dX8_room_0 : decode cX8_room 0 = .ok (.aload_n 0, 1) := by decide +kernel
theorem dX8_room_1 : decode cX8_room 1 = .ok (.iload_n 1, 1) := by decide +kernel
theorem dX8_room_2 : decode cX8_room 2 = .ok (.invokevirtual 117, 3) := by decide +kernel
theorem dX8_room_5 : decode cX8_room 5 = .ok (.ifCond .eq 20, 3) := by decide +kernel
theorem dX8_room_8 : decode cX8_room 8 = .ok (.aload_n 0, 1) := by decide +kernel
theorem dX8_room_9 : decode cX8_room 9 = .ok (.iload_n 2, 1) := by decide +kernel
theorem dX8_room_10 : decode cX8_room 10 = .ok (.invokevirtual 117, 3) := by decide +kernel
theorem dX8_room_13 : decode cX8_room 13 = .ok (.ifCond .eq 12, 3) := by decide +kernel
theorem dX8_room_16 : decode cX8_room 16 = .ok (.iload_n 3, 1) := by decide +kernel
theorem dX8_room_17 : decode cX8_room 17 = .ok (.iconst 0, 1) := by decide +kernel
theorem dX8_room_18 : decode cX8_room 18 = .ok (.iconst 2, 1) := by decide +kernel
theorem dX8_room_19 : decode cX8_room 19 = .ok (.invokestatic 99, 3) := by decide +kernel
theorem dX8_room_22 : decode cX8_room 22 = .ok (.ifCond .ne 5, 3) := by decide +kernel
theorem dX8_room_25 : decode cX8_room 25 = .ok (.iconst (-1), 1) := by decide +kernel
theorem dX8_room_26 : decode cX8_room 26 = .ok (.ireturn, 1) := by decide +kernel
theorem dX8_room_27 : decode cX8_room 27 = .ok (.aload_n 0, 1) := by decide +kernel
theorem dX8_room_28 : decode cX8_room 28 = .ok (.iload_n 1, 1) := by decide +kernel
theorem dX8_room_29 : decode cX8_room 29 = .ok (.iload_n 2, 1) := by decide +kernel
theorem dX8_room_30 : decode cX8_room 30 = .ok (.invokevirtual 153, 3) := by decide +kernel
theorem dX8_room_33 : decode cX8_room 33 = .ok (.aload_n 0, 1) := by decide +kernel
theorem dX8_room_34 : decode cX8_room 34 = .ok (.aload_n 0, 1) := by decide +kernel
theorem dX8_room_35 : decode cX8_room 35 = .ok (.getfield 16, 3) := by decide +kernel
theorem dX8_room_38 : decode cX8_room 38 = .ok (.iload_n 2, 1) := by decide +kernel
theorem dX8_room_39 : decode cX8_room 39 = .ok (.iaload, 1) := by decide +kernel
theorem dX8_room_40 : decode cX8_room 40 = .ok (.iconst 0, 1) := by decide +kernel
theorem dX8_room_41 : decode cX8_room 41 = .ok (.invokevirtual 159, 3) := by decide +kernel
theorem dX8_room_44 : decode cX8_room 44 = .ok (.istore 4, 2) := by decide +kernel
theorem dX8_room_46 : decode cX8_room 46 = .ok (.aload_n 0, 1) := by decide +kernel
theorem dX8_room_47 : decode cX8_room 47 = .ok (.aload_n 0, 1) := by decide +kernel
theorem dX8_room_48 : decode cX8_room 48 = .ok (.getfield 16, 3) := by decide +kernel
theorem dX8_room_51 : decode cX8_room 51 = .ok (.iload_n 2, 1) := by decide +kernel
theorem dX8_room_52 : decode cX8_room 52 = .ok (.iaload, 1) := by decide +kernel
theorem dX8_room_53 : decode cX8_room 53 = .ok (.iconst 1, 1) := by decide +kernel
theorem dX8_room_54 : decode cX8_room 54 = .ok (.invokevirtual 159, 3) := by decide +kernel
theorem dX8_room_57 : decode cX8_room 57 = .ok (.istore 5, 2) := by decide +kernel
theorem dX8_room_59 : decode cX8_room 59 = .ok (.iload_n 3, 1) := by decide +kernel
theorem dX8_room_60 : decode cX8_room 60 = .ok (.ifCond .ne 8, 3) := by decide +kernel
theorem dX8_room_63 : decode cX8_room 63 = .ok (.iload 4, 2) := by decide +kernel
theorem dX8_room_65 : decode cX8_room 65 = .ok (.goto 20, 3) := by decide +kernel
theorem dX8_room_68 : decode cX8_room 68 = .ok (.iload_n 3, 1) := by decide +kernel
theorem dX8_room_69 : decode cX8_room 69 = .ok (.iconst 1, 1) := by decide +kernel
theorem dX8_room_70 : decode cX8_room 70 = .ok (.if_icmp .ne 8, 3) := by decide +kernel
theorem dX8_room_73 : decode cX8_room 73 = .ok (.iload 5, 2) := by decide +kernel
theorem dX8_room_75 : decode cX8_room 75 = .ok (.goto 10, 3) := by decide +kernel
theorem dX8_room_78 : decode cX8_room 78 = .ok (.iload 4, 2) := by decide +kernel
theorem dX8_room_80 : decode cX8_room 80 = .ok (.iload 5, 2) := by decide +kernel
theorem dX8_room_82 : decode cX8_room 82 = .ok (.invokestatic 111, 3) := by decide +kernel
theorem dX8_room_85 : decode cX8_room 85 = .ok (.ireturn, 1) := by decide +kernel
theorem dX8_install_0 : decode cX8_install 0 = .ok (.aload_n 0, 1) := by decide +kernel
theorem dX8_install_1 : decode cX8_install 1 = .ok (.iload_n 1, 1) := by decide +kernel
theorem dX8_install_2 : decode cX8_install 2 = .ok (.invokevirtual 117, 3) := by decide +kernel
theorem dX8_install_5 : decode cX8_install 5 = .ok (.ifCond .ne 5, 3) := by decide +kernel
theorem dX8_install_8 : decode cX8_install 8 = .ok (.iconst 0, 1) := by decide +kernel
theorem dX8_install_9 : decode cX8_install 9 = .ok (.ireturn, 1) := by decide +kernel
theorem dX8_install_10 : decode cX8_install 10 = .ok (.iconst 0, 1) := by decide +kernel
theorem dX8_install_11 : decode cX8_install 11 = .ok (.istore_n 2, 1) := by decide +kernel
theorem dX8_install_12 : decode cX8_install 12 = .ok (.iload_n 2, 1) := by decide +kernel
theorem dX8_install_13 : decode cX8_install 13 = .ok (.bipush 120, 2) := by decide +kernel
theorem dX8_install_15 : decode cX8_install 15 = .ok (.if_icmp .ge 40, 3) := by decide +kernel
theorem dX8_install_18 : decode cX8_install 18 = .ok (.aload_n 0, 1) := by decide +kernel
theorem dX8_install_19 : decode cX8_install 19 = .ok (.getfield 66, 3) := by decide +kernel
theorem dX8_install_22 : decode cX8_install 22 = .ok (.iload_n 2, 1) := by decide +kernel
theorem dX8_install_23 : decode cX8_install 23 = .ok (.iload_n 2, 1) := by decide +kernel
theorem dX8_install_24 : decode cX8_install 24 = .ok (.aload_n 0, 1) := by decide +kernel
theorem dX8_install_25 : decode cX8_install 25 = .ok (.getfield 16, 3) := by decide +kernel
theorem dX8_install_28 : decode cX8_install 28 = .ok (.iload_n 1, 1) := by decide +kernel
theorem dX8_install_29 : decode cX8_install 29 = .ok (.iaload, 1) := by decide +kernel
theorem dX8_install_30 : decode cX8_install 30 = .ok (.if_icmp .ge 17, 3) := by decide +kernel
theorem dX8_install_33 : decode cX8_install 33 = .ok (.aload_n 0, 1) := by decide +kernel
theorem dX8_install_34 : decode cX8_install 34 = .ok (.getfield 13, 3) := by decide +kernel
theorem dX8_install_37 : decode cX8_install 37 = .ok (.bipush 120, 2) := by decide +kernel
theorem dX8_install_39 : decode cX8_install 39 = .ok (.iload_n 1, 1) := by decide +kernel
theorem dX8_install_40 : decode cX8_install 40 = .ok (.imul, 1) := by decide +kernel
theorem dX8_install_41 : decode cX8_install 41 = .ok (.iload_n 2, 1) := by decide +kernel
theorem dX8_install_42 : decode cX8_install 42 = .ok (.iadd, 1) := by decide +kernel
theorem dX8_install_43 : decode cX8_install 43 = .ok (.baload, 1) := by decide +kernel
theorem dX8_install_44 : decode cX8_install 44 = .ok (.goto 4, 3) := by decide +kernel
theorem dX8_install_47 : decode cX8_install 47 = .ok (.iconst 0, 1) := by decide +kernel
theorem dX8_install_48 : decode cX8_install 48 = .ok (.bastore, 1) := by decide +kernel
theorem dX8_install_49 : decode cX8_install 49 = .ok (.iinc 2 1, 3) := by decide +kernel
theorem dX8_install_52 : decode cX8_install 52 = .ok (.goto (-40), 3) := by decide +kernel
theorem dX8_install_55 : decode cX8_install 55 = .ok (.aload_n 0, 1) := by decide +kernel
theorem dX8_install_56 : decode cX8_install 56 = .ok (.aload_n 0, 1) := by decide +kernel
theorem dX8_install_57 : decode cX8_install 57 = .ok (.getfield 16, 3) := by decide +kernel
theorem dX8_install_60 : decode cX8_install 60 = .ok (.iload_n 1, 1) := by decide +kernel
theorem dX8_install_61 : decode cX8_install 61 = .ok (.iaload, 1) := by decide +kernel
theorem dX8_install_62 : decode cX8_install 62 = .ok (.putfield 163, 3) := by decide +kernel
theorem dX8_install_65 : decode cX8_install 65 = .ok (.aload_n 0, 1) := by decide +kernel
theorem dX8_install_66 : decode cX8_install 66 = .ok (.iconst 0, 1) := by decide +kernel
theorem dX8_install_67 : decode cX8_install 67 = .ok (.putfield 166, 3) := by decide +kernel
theorem dX8_install_70 : decode cX8_install 70 = .ok (.aload_n 0, 1) := by decide +kernel
theorem dX8_install_71 : decode cX8_install 71 = .ok (.iconst 0, 1) := by decide +kernel
theorem dX8_install_72 : decode cX8_install 72 = .ok (.putfield 170, 3) := by decide +kernel
theorem dX8_install_75 : decode cX8_install 75 = .ok (.iconst 1, 1) := by decide +kernel
theorem dX8_install_76 : decode cX8_install 76 = .ok (.ireturn, 1) := by decide +kernel
theorem dX8_checkOfArea_0 : decode cX8_checkOfArea 0 = .ok (.iconst 1, 1) := by decide +kernel
theorem dX8_checkOfArea_1 : decode cX8_checkOfArea 1 = .ok (.istore_n 1, 1) := by decide +kernel
theorem dX8_checkOfArea_2 : decode cX8_checkOfArea 2 = .ok (.iconst 0, 1) := by decide +kernel
theorem dX8_checkOfArea_3 : decode cX8_checkOfArea 3 = .ok (.istore_n 2, 1) := by decide +kernel
theorem dX8_checkOfArea_4 : decode cX8_checkOfArea 4 = .ok (.iload_n 2, 1) := by decide +kernel
theorem dX8_checkOfArea_5 : decode cX8_checkOfArea 5 = .ok (.aload_n 0, 1) := by decide +kernel
theorem dX8_checkOfArea_6 : decode cX8_checkOfArea 6 = .ok (.getfield 163, 3) := by decide +kernel
theorem dX8_checkOfArea_9 : decode cX8_checkOfArea 9 = .ok (.if_icmp .ge 24, 3) := by decide +kernel
theorem dX8_checkOfArea_12 : decode cX8_checkOfArea 12 = .ok (.iload_n 1, 1) := by decide +kernel
theorem dX8_checkOfArea_13 : decode cX8_checkOfArea 13 = .ok (.aload_n 0, 1) := by decide +kernel
theorem dX8_checkOfArea_14 : decode cX8_checkOfArea 14 = .ok (.getfield 66, 3) := by decide +kernel
theorem dX8_checkOfArea_17 : decode cX8_checkOfArea 17 = .ok (.iload_n 2, 1) := by decide +kernel
theorem dX8_checkOfArea_18 : decode cX8_checkOfArea 18 = .ok (.baload, 1) := by decide +kernel
theorem dX8_checkOfArea_19 : decode cX8_checkOfArea 19 = .ok (.sipush 255, 3) := by decide +kernel
theorem dX8_checkOfArea_22 : decode cX8_checkOfArea 22 = .ok (.iand, 1) := by decide +kernel
theorem dX8_checkOfArea_23 : decode cX8_checkOfArea 23 = .ok (.invokestatic 125, 3) := by decide +kernel
theorem dX8_checkOfArea_26 : decode cX8_checkOfArea 26 = .ok (.istore_n 1, 1) := by decide +kernel
theorem dX8_checkOfArea_27 : decode cX8_checkOfArea 27 = .ok (.iinc 2 1, 3) := by decide +kernel
theorem dX8_checkOfArea_30 : decode cX8_checkOfArea 30 = .ok (.goto (-26), 3) := by decide +kernel
theorem dX8_checkOfArea_33 : decode cX8_checkOfArea 33 = .ok (.iload_n 1, 1) := by decide +kernel
theorem dX8_checkOfArea_34 : decode cX8_checkOfArea 34 = .ok (.ireturn, 1) := by decide +kernel
theorem dX8_allWrites_0 : decode cX8_allWrites 0 = .ok (.aload_n 0, 1) := by decide +kernel
theorem dX8_allWrites_1 : decode cX8_allWrites 1 = .ok (.getfield 173, 3) := by decide +kernel
theorem dX8_allWrites_4 : decode cX8_allWrites 4 = .ok (.iconst 2, 1) := by decide +kernel
theorem dX8_allWrites_5 : decode cX8_allWrites 5 = .ok (.iadd, 1) := by decide +kernel
theorem dX8_allWrites_6 : decode cX8_allWrites 6 = .ok (.iconst 2, 1) := by decide +kernel
theorem dX8_allWrites_7 : decode cX8_allWrites 7 = .ok (.aload_n 0, 1) := by decide +kernel
theorem dX8_allWrites_8 : decode cX8_allWrites 8 = .ok (.getfield 176, 3) := by decide +kernel
theorem dX8_allWrites_11 : decode cX8_allWrites 11 = .ok (.imul, 1) := by decide +kernel
theorem dX8_allWrites_12 : decode cX8_allWrites 12 = .ok (.iadd, 1) := by decide +kernel
theorem dX8_allWrites_13 : decode cX8_allWrites 13 = .ok (.ireturn, 1) := by decide +kernel
theorem dX8_update_0 : decode cX8_update 0 = .ok (.aload_n 0, 1) := by decide +kernel
theorem dX8_update_1 : decode cX8_update 1 = .ok (.iload_n 1, 1) := by decide +kernel
theorem dX8_update_2 : decode cX8_update 2 = .ok (.invokevirtual 117, 3) := by decide +kernel
theorem dX8_update_5 : decode cX8_update 5 = .ok (.ifCond .eq 11, 3) := by decide +kernel
theorem dX8_update_8 : decode cX8_update 8 = .ok (.aload_n 0, 1) := by decide +kernel
theorem dX8_update_9 : decode cX8_update 9 = .ok (.iload_n 2, 1) := by decide +kernel
theorem dX8_update_10 : decode cX8_update 10 = .ok (.invokevirtual 117, 3) := by decide +kernel
theorem dX8_update_13 : decode cX8_update 13 = .ok (.ifCond .ne 5, 3) := by decide +kernel
theorem dX8_update_16 : decode cX8_update 16 = .ok (.iconst (-1), 1) := by decide +kernel
theorem dX8_update_17 : decode cX8_update 17 = .ok (.ireturn, 1) := by decide +kernel
theorem dX8_update_18 : decode cX8_update 18 = .ok (.aload_n 0, 1) := by decide +kernel
theorem dX8_update_19 : decode cX8_update 19 = .ok (.getfield 166, 3) := by decide +kernel
theorem dX8_update_22 : decode cX8_update 22 = .ok (.ifCond .eq 6, 3) := by decide +kernel
theorem dX8_update_25 : decode cX8_update 25 = .ok (.bipush (-2), 2) := by decide +kernel
theorem dX8_update_27 : decode cX8_update 27 = .ok (.ireturn, 1) := by decide +kernel
theorem dX8_update_28 : decode cX8_update 28 = .ok (.aload_n 0, 1) := by decide +kernel
theorem dX8_update_29 : decode cX8_update 29 = .ok (.getfield 163, 3) := by decide +kernel
theorem dX8_update_32 : decode cX8_update 32 = .ok (.aload_n 0, 1) := by decide +kernel
theorem dX8_update_33 : decode cX8_update 33 = .ok (.getfield 16, 3) := by decide +kernel
theorem dX8_update_36 : decode cX8_update 36 = .ok (.iload_n 1, 1) := by decide +kernel
theorem dX8_update_37 : decode cX8_update 37 = .ok (.iaload, 1) := by decide +kernel
theorem dX8_update_38 : decode cX8_update 38 = .ok (.if_icmp .ne 15, 3) := by decide +kernel
theorem dX8_update_41 : decode cX8_update 41 = .ok (.aload_n 0, 1) := by decide +kernel
theorem dX8_update_42 : decode cX8_update 42 = .ok (.invokevirtual 179, 3) := by decide +kernel
theorem dX8_update_45 : decode cX8_update 45 = .ok (.aload_n 0, 1) := by decide +kernel
theorem dX8_update_46 : decode cX8_update 46 = .ok (.iload_n 1, 1) := by decide +kernel
theorem dX8_update_47 : decode cX8_update 47 = .ok (.invokevirtual 183, 3) := by decide +kernel
theorem dX8_update_50 : decode cX8_update 50 = .ok (.if_icmp .eq 6, 3) := by decide +kernel
theorem dX8_update_53 : decode cX8_update 53 = .ok (.bipush (-3), 2) := by decide +kernel
theorem dX8_update_55 : decode cX8_update 55 = .ok (.ireturn, 1) := by decide +kernel
theorem dX8_update_56 : decode cX8_update 56 = .ok (.aload_n 0, 1) := by decide +kernel
theorem dX8_update_57 : decode cX8_update 57 = .ok (.iload_n 1, 1) := by decide +kernel
theorem dX8_update_58 : decode cX8_update 58 = .ok (.iload_n 2, 1) := by decide +kernel
theorem dX8_update_59 : decode cX8_update 59 = .ok (.invokevirtual 153, 3) := by decide +kernel
theorem dX8_update_62 : decode cX8_update 62 = .ok (.aload_n 0, 1) := by decide +kernel
theorem dX8_update_63 : decode cX8_update 63 = .ok (.aload_n 0, 1) := by decide +kernel
theorem dX8_update_64 : decode cX8_update 64 = .ok (.getfield 16, 3) := by decide +kernel
theorem dX8_update_67 : decode cX8_update 67 = .ok (.iload_n 2, 1) := by decide +kernel
theorem dX8_update_68 : decode cX8_update 68 = .ok (.iaload, 1) := by decide +kernel
theorem dX8_update_69 : decode cX8_update 69 = .ok (.putfield 176, 3) := by decide +kernel
theorem dX8_update_72 : decode cX8_update 72 = .ok (.aload_n 0, 1) := by decide +kernel
theorem dX8_update_73 : decode cX8_update 73 = .ok (.aload_n 0, 1) := by decide +kernel
theorem dX8_update_74 : decode cX8_update 74 = .ok (.getfield 176, 3) := by decide +kernel
theorem dX8_update_77 : decode cX8_update 77 = .ok (.iconst 0, 1) := by decide +kernel
theorem dX8_update_78 : decode cX8_update 78 = .ok (.invokevirtual 159, 3) := by decide +kernel
theorem dX8_update_81 : decode cX8_update 81 = .ok (.istore_n 3, 1) := by decide +kernel
theorem dX8_update_82 : decode cX8_update 82 = .ok (.aload_n 0, 1) := by decide +kernel
theorem dX8_update_83 : decode cX8_update 83 = .ok (.aload_n 0, 1) := by decide +kernel
theorem dX8_update_84 : decode cX8_update 84 = .ok (.aload_n 0, 1) := by decide +kernel
theorem dX8_update_85 : decode cX8_update 85 = .ok (.getfield 176, 3) := by decide +kernel
theorem dX8_update_88 : decode cX8_update 88 = .ok (.iconst 1, 1) := by decide +kernel
theorem dX8_update_89 : decode cX8_update 89 = .ok (.invokevirtual 159, 3) := by decide +kernel
theorem dX8_update_92 : decode cX8_update 92 = .ok (.iload_n 3, 1) := by decide +kernel
theorem dX8_update_93 : decode cX8_update 93 = .ok (.if_icmp .ge 7, 3) := by decide +kernel
theorem dX8_update_96 : decode cX8_update 96 = .ok (.iconst 1, 1) := by decide +kernel
theorem dX8_update_97 : decode cX8_update 97 = .ok (.goto 4, 3) := by decide +kernel
theorem dX8_update_100 : decode cX8_update 100 = .ok (.iconst 0, 1) := by decide +kernel
theorem dX8_update_101 : decode cX8_update 101 = .ok (.putfield 187, 3) := by decide +kernel
theorem dX8_update_104 : decode cX8_update 104 = .ok (.aload_n 0, 1) := by decide +kernel
theorem dX8_update_105 : decode cX8_update 105 = .ok (.aload_n 0, 1) := by decide +kernel
theorem dX8_update_106 : decode cX8_update 106 = .ok (.aload_n 0, 1) := by decide +kernel
theorem dX8_update_107 : decode cX8_update 107 = .ok (.getfield 176, 3) := by decide +kernel
theorem dX8_update_110 : decode cX8_update 110 = .ok (.aload_n 0, 1) := by decide +kernel
theorem dX8_update_111 : decode cX8_update 111 = .ok (.getfield 187, 3) := by decide +kernel
theorem dX8_update_114 : decode cX8_update 114 = .ok (.invokevirtual 159, 3) := by decide +kernel
theorem dX8_update_117 : decode cX8_update 117 = .ok (.putfield 173, 3) := by decide +kernel
theorem dX8_update_120 : decode cX8_update 120 = .ok (.iconst 0, 1) := by decide +kernel
theorem dX8_update_121 : decode cX8_update 121 = .ok (.istore 4, 2) := by decide +kernel
theorem dX8_update_123 : decode cX8_update 123 = .ok (.iconst 0, 1) := by decide +kernel
theorem dX8_update_124 : decode cX8_update 124 = .ok (.istore 5, 2) := by decide +kernel
theorem dX8_update_126 : decode cX8_update 126 = .ok (.iload 5, 2) := by decide +kernel
theorem dX8_update_128 : decode cX8_update 128 = .ok (.bipush 120, 2) := by decide +kernel
theorem dX8_update_130 : decode cX8_update 130 = .ok (.if_icmp .ge 51, 3) := by decide +kernel
theorem dX8_update_133 : decode cX8_update 133 = .ok (.aload_n 0, 1) := by decide +kernel
theorem dX8_update_134 : decode cX8_update 134 = .ok (.getfield 84, 3) := by decide +kernel
theorem dX8_update_137 : decode cX8_update 137 = .ok (.iload 5, 2) := by decide +kernel
theorem dX8_update_139 : decode cX8_update 139 = .ok (.iconst (-1), 1) := by decide +kernel
theorem dX8_update_140 : decode cX8_update 140 = .ok (.iastore, 1) := by decide +kernel
theorem dX8_update_141 : decode cX8_update 141 = .ok (.aload_n 0, 1) := by decide +kernel
theorem dX8_update_142 : decode cX8_update 142 = .ok (.getfield 62, 3) := by decide +kernel
theorem dX8_update_145 : decode cX8_update 145 = .ok (.iload 5, 2) := by decide +kernel
theorem dX8_update_147 : decode cX8_update 147 = .ok (.baload, 1) := by decide +kernel
theorem dX8_update_148 : decode cX8_update 148 = .ok (.ifCond .ne 6, 3) := by decide +kernel
theorem dX8_update_151 : decode cX8_update 151 = .ok (.goto 24, 3) := by decide +kernel
theorem dX8_update_154 : decode cX8_update 154 = .ok (.aload_n 0, 1) := by decide +kernel
theorem dX8_update_155 : decode cX8_update 155 = .ok (.getfield 81, 3) := by decide +kernel
theorem dX8_update_158 : decode cX8_update 158 = .ok (.iload 4, 2) := by decide +kernel
theorem dX8_update_160 : decode cX8_update 160 = .ok (.iload 5, 2) := by decide +kernel
theorem dX8_update_162 : decode cX8_update 162 = .ok (.iastore, 1) := by decide +kernel
theorem dX8_update_163 : decode cX8_update 163 = .ok (.aload_n 0, 1) := by decide +kernel
theorem dX8_update_164 : decode cX8_update 164 = .ok (.getfield 84, 3) := by decide +kernel
theorem dX8_update_167 : decode cX8_update 167 = .ok (.iload 5, 2) := by decide +kernel
theorem dX8_update_169 : decode cX8_update 169 = .ok (.iload 4, 2) := by decide +kernel
theorem dX8_update_171 : decode cX8_update 171 = .ok (.iastore, 1) := by decide +kernel
theorem dX8_update_172 : decode cX8_update 172 = .ok (.iinc 4 1, 3) := by decide +kernel
theorem dX8_update_175 : decode cX8_update 175 = .ok (.iinc 5 1, 3) := by decide +kernel
theorem dX8_update_178 : decode cX8_update 178 = .ok (.goto (-52), 3) := by decide +kernel
theorem dX8_update_181 : decode cX8_update 181 = .ok (.iconst 0, 1) := by decide +kernel
theorem dX8_update_182 : decode cX8_update 182 = .ok (.istore 5, 2) := by decide +kernel
theorem dX8_update_184 : decode cX8_update 184 = .ok (.iload 5, 2) := by decide +kernel
theorem dX8_update_186 : decode cX8_update 186 = .ok (.aload_n 0, 1) := by decide +kernel
theorem dX8_update_187 : decode cX8_update 187 = .ok (.getfield 176, 3) := by decide +kernel
theorem dX8_update_190 : decode cX8_update 190 = .ok (.if_icmp .ge 51, 3) := by decide +kernel
theorem dX8_update_193 : decode cX8_update 193 = .ok (.aload_n 0, 1) := by decide +kernel
theorem dX8_update_194 : decode cX8_update 194 = .ok (.getfield 72, 3) := by decide +kernel
theorem dX8_update_197 : decode cX8_update 197 = .ok (.iload 5, 2) := by decide +kernel
theorem dX8_update_199 : decode cX8_update 199 = .ok (.aload_n 0, 1) := by decide +kernel
theorem dX8_update_200 : decode cX8_update 200 = .ok (.getfield 38, 3) := by decide +kernel
theorem dX8_update_203 : decode cX8_update 203 = .ok (.iload 5, 2) := by decide +kernel
theorem dX8_update_205 : decode cX8_update 205 = .ok (.iaload, 1) := by decide +kernel
theorem dX8_update_206 : decode cX8_update 206 = .ok (.iastore, 1) := by decide +kernel
theorem dX8_update_207 : decode cX8_update 207 = .ok (.aload_n 0, 1) := by decide +kernel
theorem dX8_update_208 : decode cX8_update 208 = .ok (.getfield 75, 3) := by decide +kernel
theorem dX8_update_211 : decode cX8_update 211 = .ok (.iload 5, 2) := by decide +kernel
theorem dX8_update_213 : decode cX8_update 213 = .ok (.aload_n 0, 1) := by decide +kernel
theorem dX8_update_214 : decode cX8_update 214 = .ok (.getfield 41, 3) := by decide +kernel
theorem dX8_update_217 : decode cX8_update 217 = .ok (.iload 5, 2) := by decide +kernel
theorem dX8_update_219 : decode cX8_update 219 = .ok (.iaload, 1) := by decide +kernel
theorem dX8_update_220 : decode cX8_update 220 = .ok (.iastore, 1) := by decide +kernel
theorem dX8_update_221 : decode cX8_update 221 = .ok (.aload_n 0, 1) := by decide +kernel
theorem dX8_update_222 : decode cX8_update 222 = .ok (.getfield 78, 3) := by decide +kernel
theorem dX8_update_225 : decode cX8_update 225 = .ok (.iload 5, 2) := by decide +kernel
theorem dX8_update_227 : decode cX8_update 227 = .ok (.aload_n 0, 1) := by decide +kernel
theorem dX8_update_228 : decode cX8_update 228 = .ok (.iload_n 2, 1) := by decide +kernel
theorem dX8_update_229 : decode cX8_update 229 = .ok (.iload 5, 2) := by decide +kernel
theorem dX8_update_231 : decode cX8_update 231 = .ok (.invokevirtual 121, 3) := by decide +kernel
theorem dX8_update_234 : decode cX8_update 234 = .ok (.iastore, 1) := by decide +kernel
theorem dX8_update_235 : decode cX8_update 235 = .ok (.iinc 5 1, 3) := by decide +kernel
theorem dX8_update_238 : decode cX8_update 238 = .ok (.goto (-54), 3) := by decide +kernel
theorem dX8_update_241 : decode cX8_update 241 = .ok (.aload_n 0, 1) := by decide +kernel
theorem dX8_update_242 : decode cX8_update 242 = .ok (.iconst 1, 1) := by decide +kernel
theorem dX8_update_243 : decode cX8_update 243 = .ok (.putfield 166, 3) := by decide +kernel
theorem dX8_update_246 : decode cX8_update 246 = .ok (.aload_n 0, 1) := by decide +kernel
theorem dX8_update_247 : decode cX8_update 247 = .ok (.iconst 0, 1) := by decide +kernel
theorem dX8_update_248 : decode cX8_update 248 = .ok (.putfield 170, 3) := by decide +kernel
theorem dX8_update_251 : decode cX8_update 251 = .ok (.aload_n 0, 1) := by decide +kernel
theorem dX8_update_252 : decode cX8_update 252 = .ok (.iconst 0, 1) := by decide +kernel
theorem dX8_update_253 : decode cX8_update 253 = .ok (.putfield 190, 3) := by decide +kernel
theorem dX8_update_256 : decode cX8_update 256 = .ok (.aload_n 0, 1) := by decide +kernel
theorem dX8_update_257 : decode cX8_update 257 = .ok (.invokevirtual 193, 3) := by decide +kernel
theorem dX8_update_260 : decode cX8_update 260 = .ok (.ireturn, 1) := by decide +kernel
theorem dX8_writeOne_0 : decode cX8_writeOne 0 = .ok (.iload_n 1, 1) := by decide +kernel
theorem dX8_writeOne_1 : decode cX8_writeOne 1 = .ok (.aload_n 0, 1) := by decide +kernel
theorem dX8_writeOne_2 : decode cX8_writeOne 2 = .ok (.getfield 173, 3) := by decide +kernel
theorem dX8_writeOne_5 : decode cX8_writeOne 5 = .ok (.if_icmp .ge 23, 3) := by decide +kernel
theorem dX8_writeOne_8 : decode cX8_writeOne 8 = .ok (.aload_n 0, 1) := by decide +kernel
theorem dX8_writeOne_9 : decode cX8_writeOne 9 = .ok (.getfield 69, 3) := by decide +kernel
theorem dX8_writeOne_12 : decode cX8_writeOne 12 = .ok (.iload_n 1, 1) := by decide +kernel
theorem dX8_writeOne_13 : decode cX8_writeOne 13 = .ok (.aload_n 0, 1) := by decide +kernel
theorem dX8_writeOne_14 : decode cX8_writeOne 14 = .ok (.getfield 66, 3) := by decide +kernel
theorem dX8_writeOne_17 : decode cX8_writeOne 17 = .ok (.aload_n 0, 1) := by decide +kernel
theorem dX8_writeOne_18 : decode cX8_writeOne 18 = .ok (.getfield 81, 3) := by decide +kernel
theorem dX8_writeOne_21 : decode cX8_writeOne 21 = .ok (.iload_n 1, 1) := by decide +kernel
theorem dX8_writeOne_22 : decode cX8_writeOne 22 = .ok (.iaload, 1) := by decide +kernel
theorem dX8_writeOne_23 : decode cX8_writeOne 23 = .ok (.baload, 1) := by decide +kernel
theorem dX8_writeOne_24 : decode cX8_writeOne 24 = .ok (.bastore, 1) := by decide +kernel
theorem dX8_writeOne_25 : decode cX8_writeOne 25 = .ok (.goto 150, 3) := by decide +kernel
theorem dX8_writeOne_28 : decode cX8_writeOne 28 = .ok (.iload_n 1, 1) := by decide +kernel
theorem dX8_writeOne_29 : decode cX8_writeOne 29 = .ok (.aload_n 0, 1) := by decide +kernel
theorem dX8_writeOne_30 : decode cX8_writeOne 30 = .ok (.invokevirtual 193, 3) := by decide +kernel
theorem dX8_writeOne_33 : decode cX8_writeOne 33 = .ok (.iconst 1, 1) := by decide +kernel
theorem dX8_writeOne_34 : decode cX8_writeOne 34 = .ok (.isub, 1) := by decide +kernel
theorem dX8_writeOne_35 : decode cX8_writeOne 35 = .ok (.if_icmp .ne 19, 3) := by decide +kernel
theorem dX8_writeOne_38 : decode cX8_writeOne 38 = .ok (.aload_n 0, 1) := by decide +kernel
theorem dX8_writeOne_39 : decode cX8_writeOne 39 = .ok (.aload_n 0, 1) := by decide +kernel
theorem dX8_writeOne_40 : decode cX8_writeOne 40 = .ok (.getfield 176, 3) := by decide +kernel
theorem dX8_writeOne_43 : decode cX8_writeOne 43 = .ok (.putfield 163, 3) := by decide +kernel
theorem dX8_writeOne_46 : decode cX8_writeOne 46 = .ok (.aload_n 0, 1) := by decide +kernel
theorem dX8_writeOne_47 : decode cX8_writeOne 47 = .ok (.iconst 0, 1) := by decide +kernel
theorem dX8_writeOne_48 : decode cX8_writeOne 48 = .ok (.putfield 166, 3) := by decide +kernel
theorem dX8_writeOne_51 : decode cX8_writeOne 51 = .ok (.goto 124, 3) := by decide +kernel
theorem dX8_writeOne_54 : decode cX8_writeOne 54 = .ok (.iload_n 1, 1) := by decide +kernel
theorem dX8_writeOne_55 : decode cX8_writeOne 55 = .ok (.aload_n 0, 1) := by decide +kernel
theorem dX8_writeOne_56 : decode cX8_writeOne 56 = .ok (.getfield 173, 3) := by decide +kernel
theorem dX8_writeOne_59 : decode cX8_writeOne 59 = .ok (.if_icmp .le 116, 3) := by decide +kernel
theorem dX8_writeOne_62 : decode cX8_writeOne 62 = .ok (.iload_n 1, 1) := by decide +kernel
theorem dX8_writeOne_63 : decode cX8_writeOne 63 = .ok (.aload_n 0, 1) := by decide +kernel
theorem dX8_writeOne_64 : decode cX8_writeOne 64 = .ok (.getfield 173, 3) := by decide +kernel
theorem dX8_writeOne_67 : decode cX8_writeOne 67 = .ok (.isub, 1) := by decide +kernel
theorem dX8_writeOne_68 : decode cX8_writeOne 68 = .ok (.iconst 2, 1) := by decide +kernel
theorem dX8_writeOne_69 : decode cX8_writeOne 69 = .ok (.irem, 1) := by decide +kernel
theorem dX8_writeOne_70 : decode cX8_writeOne 70 = .ok (.iconst 1, 1) := by decide +kernel
theorem dX8_writeOne_71 : decode cX8_writeOne 71 = .ok (.if_icmp .ne 104, 3) := by decide +kernel
theorem dX8_writeOne_74 : decode cX8_writeOne 74 = .ok (.iload_n 1, 1) := by decide +kernel
theorem dX8_writeOne_75 : decode cX8_writeOne 75 = .ok (.aload_n 0, 1) := by decide +kernel
theorem dX8_writeOne_76 : decode cX8_writeOne 76 = .ok (.getfield 173, 3) := by decide +kernel
theorem dX8_writeOne_79 : decode cX8_writeOne 79 = .ok (.isub, 1) := by decide +kernel
theorem dX8_writeOne_80 : decode cX8_writeOne 80 = .ok (.iconst 1, 1) := by decide +kernel
theorem dX8_writeOne_81 : decode cX8_writeOne 81 = .ok (.isub, 1) := by decide +kernel
theorem dX8_writeOne_82 : decode cX8_writeOne 82 = .ok (.iconst 2, 1) := by decide +kernel
theorem dX8_writeOne_83 : decode cX8_writeOne 83 = .ok (.idiv, 1) := by decide +kernel
theorem dX8_writeOne_84 : decode cX8_writeOne 84 = .ok (.istore_n 2, 1) := by decide +kernel
theorem dX8_writeOne_85 : decode cX8_writeOne 85 = .ok (.aload_n 0, 1) := by decide +kernel
theorem dX8_writeOne_86 : decode cX8_writeOne 86 = .ok (.getfield 187, 3) := by decide +kernel
theorem dX8_writeOne_89 : decode cX8_writeOne 89 = .ok (.ifCond .eq 14, 3) := by decide +kernel
theorem dX8_writeOne_92 : decode cX8_writeOne 92 = .ok (.aload_n 0, 1) := by decide +kernel
theorem dX8_writeOne_93 : decode cX8_writeOne 93 = .ok (.getfield 176, 3) := by decide +kernel
theorem dX8_writeOne_96 : decode cX8_writeOne 96 = .ok (.iconst 1, 1) := by decide +kernel
theorem dX8_writeOne_97 : decode cX8_writeOne 97 = .ok (.isub, 1) := by decide +kernel
theorem dX8_writeOne_98 : decode cX8_writeOne 98 = .ok (.iload_n 2, 1) := by decide +kernel
theorem dX8_writeOne_99 : decode cX8_writeOne 99 = .ok (.isub, 1) := by decide +kernel
theorem dX8_writeOne_100 : decode cX8_writeOne 100 = .ok (.goto 4, 3) := by decide +kernel
theorem dX8_writeOne_103 : decode cX8_writeOne 103 = .ok (.iload_n 2, 1) := by decide +kernel
theorem dX8_writeOne_104 : decode cX8_writeOne 104 = .ok (.istore_n 3, 1) := by decide +kernel
theorem dX8_writeOne_105 : decode cX8_writeOne 105 = .ok (.aload_n 0, 1) := by decide +kernel
theorem dX8_writeOne_106 : decode cX8_writeOne 106 = .ok (.getfield 72, 3) := by decide +kernel
theorem dX8_writeOne_109 : decode cX8_writeOne 109 = .ok (.iload_n 3, 1) := by decide +kernel
theorem dX8_writeOne_110 : decode cX8_writeOne 110 = .ok (.iaload, 1) := by decide +kernel
theorem dX8_writeOne_111 : decode cX8_writeOne 111 = .ok (.istore 4, 2) := by decide +kernel
theorem dX8_writeOne_113 : decode cX8_writeOne 113 = .ok (.aload_n 0, 1) := by decide +kernel
theorem dX8_writeOne_114 : decode cX8_writeOne 114 = .ok (.getfield 66, 3) := by decide +kernel
theorem dX8_writeOne_117 : decode cX8_writeOne 117 = .ok (.iload_n 3, 1) := by decide +kernel
theorem dX8_writeOne_118 : decode cX8_writeOne 118 = .ok (.iload 4, 2) := by decide +kernel
theorem dX8_writeOne_120 : decode cX8_writeOne 120 = .ok (.iconst (-1), 1) := by decide +kernel
theorem dX8_writeOne_121 : decode cX8_writeOne 121 = .ok (.if_icmp .ne 12, 3) := by decide +kernel
theorem dX8_writeOne_124 : decode cX8_writeOne 124 = .ok (.aload_n 0, 1) := by decide +kernel
theorem dX8_writeOne_125 : decode cX8_writeOne 125 = .ok (.getfield 78, 3) := by decide +kernel
theorem dX8_writeOne_128 : decode cX8_writeOne 128 = .ok (.iload_n 3, 1) := by decide +kernel
theorem dX8_writeOne_129 : decode cX8_writeOne 129 = .ok (.iaload, 1) := by decide +kernel
theorem dX8_writeOne_130 : decode cX8_writeOne 130 = .ok (.goto 43, 3) := by decide +kernel
theorem dX8_writeOne_133 : decode cX8_writeOne 133 = .ok (.aload_n 0, 1) := by decide +kernel
theorem dX8_writeOne_134 : decode cX8_writeOne 134 = .ok (.getfield 84, 3) := by decide +kernel
theorem dX8_writeOne_137 : decode cX8_writeOne 137 = .ok (.iload 4, 2) := by decide +kernel
theorem dX8_writeOne_139 : decode cX8_writeOne 139 = .ok (.iaload, 1) := by decide +kernel
theorem dX8_writeOne_140 : decode cX8_writeOne 140 = .ok (.iconst (-1), 1) := by decide +kernel
theorem dX8_writeOne_141 : decode cX8_writeOne 141 = .ok (.if_icmp .ne 13, 3) := by decide +kernel
theorem dX8_writeOne_144 : decode cX8_writeOne 144 = .ok (.aload_n 0, 1) := by decide +kernel
theorem dX8_writeOne_145 : decode cX8_writeOne 145 = .ok (.getfield 66, 3) := by decide +kernel
theorem dX8_writeOne_148 : decode cX8_writeOne 148 = .ok (.iload 4, 2) := by decide +kernel
theorem dX8_writeOne_150 : decode cX8_writeOne 150 = .ok (.baload, 1) := by decide +kernel
theorem dX8_writeOne_151 : decode cX8_writeOne 151 = .ok (.goto 15, 3) := by decide +kernel
theorem dX8_writeOne_154 : decode cX8_writeOne 154 = .ok (.aload_n 0, 1) := by decide +kernel
theorem dX8_writeOne_155 : decode cX8_writeOne 155 = .ok (.getfield 69, 3) := by decide +kernel
theorem dX8_writeOne_158 : decode cX8_writeOne 158 = .ok (.aload_n 0, 1) := by decide +kernel
theorem dX8_writeOne_159 : decode cX8_writeOne 159 = .ok (.getfield 84, 3) := by decide +kernel
theorem dX8_writeOne_162 : decode cX8_writeOne 162 = .ok (.iload 4, 2) := by decide +kernel
theorem dX8_writeOne_164 : decode cX8_writeOne 164 = .ok (.iaload, 1) := by decide +kernel
theorem dX8_writeOne_165 : decode cX8_writeOne 165 = .ok (.baload, 1) := by decide +kernel
theorem dX8_writeOne_166 : decode cX8_writeOne 166 = .ok (.aload_n 0, 1) := by decide +kernel
theorem dX8_writeOne_167 : decode cX8_writeOne 167 = .ok (.getfield 75, 3) := by decide +kernel
theorem dX8_writeOne_170 : decode cX8_writeOne 170 = .ok (.iload_n 3, 1) := by decide +kernel
theorem dX8_writeOne_171 : decode cX8_writeOne 171 = .ok (.iaload, 1) := by decide +kernel
theorem dX8_writeOne_172 : decode cX8_writeOne 172 = .ok (.iadd, 1) := by decide +kernel
theorem dX8_writeOne_173 : decode cX8_writeOne 173 = .ok (.i2b, 1) := by decide +kernel
theorem dX8_writeOne_174 : decode cX8_writeOne 174 = .ok (.bastore, 1) := by decide +kernel
theorem dX8_writeOne_175 : decode cX8_writeOne 175 = .ok (.aload_n 0, 1) := by decide +kernel
theorem dX8_writeOne_176 : decode cX8_writeOne 176 = .ok (.dup, 1) := by decide +kernel
theorem dX8_writeOne_177 : decode cX8_writeOne 177 = .ok (.getfield 196, 3) := by decide +kernel
theorem dX8_writeOne_180 : decode cX8_writeOne 180 = .ok (.iconst 1, 1) := by decide +kernel
theorem dX8_writeOne_181 : decode cX8_writeOne 181 = .ok (.iadd, 1) := by decide +kernel
theorem dX8_writeOne_182 : decode cX8_writeOne 182 = .ok (.putfield 196, 3) := by decide +kernel
theorem dX8_writeOne_185 : decode cX8_writeOne 185 = .ok (.aload_n 0, 1) := by decide +kernel
theorem dX8_writeOne_186 : decode cX8_writeOne 186 = .ok (.dup, 1) := by decide +kernel
theorem dX8_writeOne_187 : decode cX8_writeOne 187 = .ok (.getfield 190, 3) := by decide +kernel
theorem dX8_writeOne_190 : decode cX8_writeOne 190 = .ok (.iconst 1, 1) := by decide +kernel
theorem dX8_writeOne_191 : decode cX8_writeOne 191 = .ok (.iadd, 1) := by decide +kernel
theorem dX8_writeOne_192 : decode cX8_writeOne 192 = .ok (.putfield 190, 3) := by decide +kernel
end
section
theorem dX8_writeOne_195 : decode cX8_writeOne 195 = .ok (.return_, 1) := by decide +kernel
theorem dX8_write_0 : decode cX8_write 0 = .ok (.iload_n 1, 1) := by decide +kernel
theorem dX8_write_1 : decode cX8_write 1 = .ok (.iconst 0, 1) := by decide +kernel
theorem dX8_write_2 : decode cX8_write 2 = .ok (.sipush 1000, 3) := by decide +kernel
theorem dX8_write_5 : decode cX8_write 5 = .ok (.invokestatic 99, 3) := by decide +kernel
theorem dX8_write_8 : decode cX8_write 8 = .ok (.ifCond .ne 5, 3) := by decide +kernel
theorem dX8_write_11 : decode cX8_write 11 = .ok (.iconst (-1), 1) := by decide +kernel
theorem dX8_write_12 : decode cX8_write 12 = .ok (.ireturn, 1) := by decide +kernel
theorem dX8_write_13 : decode cX8_write 13 = .ok (.aload_n 0, 1) := by decide +kernel
theorem dX8_write_14 : decode cX8_write 14 = .ok (.getfield 166, 3) := by decide +kernel
theorem dX8_write_17 : decode cX8_write 17 = .ok (.ifCond .eq 10, 3) := by decide +kernel
theorem dX8_write_20 : decode cX8_write 20 = .ok (.aload_n 0, 1) := by decide +kernel
theorem dX8_write_21 : decode cX8_write 21 = .ok (.getfield 170, 3) := by decide +kernel
theorem dX8_write_24 : decode cX8_write 24 = .ok (.ifCond .eq 6, 3) := by decide +kernel
theorem dX8_write_27 : decode cX8_write 27 = .ok (.bipush (-2), 2) := by decide +kernel
theorem dX8_write_29 : decode cX8_write 29 = .ok (.ireturn, 1) := by decide +kernel
theorem dX8_write_30 : decode cX8_write 30 = .ok (.iconst 0, 1) := by decide +kernel
theorem dX8_write_31 : decode cX8_write 31 = .ok (.istore_n 2, 1) := by decide +kernel
theorem dX8_write_32 : decode cX8_write 32 = .ok (.iload_n 2, 1) := by decide +kernel
theorem dX8_write_33 : decode cX8_write 33 = .ok (.iload_n 1, 1) := by decide +kernel
theorem dX8_write_34 : decode cX8_write 34 = .ok (.if_icmp .ge 24, 3) := by decide +kernel
theorem dX8_write_37 : decode cX8_write 37 = .ok (.aload_n 0, 1) := by decide +kernel
theorem dX8_write_38 : decode cX8_write 38 = .ok (.getfield 166, 3) := by decide +kernel
theorem dX8_write_41 : decode cX8_write 41 = .ok (.ifCond .eq 17, 3) := by decide +kernel
theorem dX8_write_44 : decode cX8_write 44 = .ok (.aload_n 0, 1) := by decide +kernel
theorem dX8_write_45 : decode cX8_write 45 = .ok (.aload_n 0, 1) := by decide +kernel
theorem dX8_write_46 : decode cX8_write 46 = .ok (.getfield 190, 3) := by decide +kernel
theorem dX8_write_49 : decode cX8_write 49 = .ok (.invokevirtual 199, 3) := by decide +kernel
theorem dX8_write_52 : decode cX8_write 52 = .ok (.iinc 2 1, 3) := by decide +kernel
theorem dX8_write_55 : decode cX8_write 55 = .ok (.goto (-23), 3) := by decide +kernel
theorem dX8_write_58 : decode cX8_write 58 = .ok (.iload_n 2, 1) := by decide +kernel
theorem dX8_write_59 : decode cX8_write 59 = .ok (.ireturn, 1) := by decide +kernel
theorem dX8_cut_0 : decode cX8_cut 0 = .ok (.aload_n 0, 1) := by decide +kernel
theorem dX8_cut_1 : decode cX8_cut 1 = .ok (.getfield 166, 3) := by decide +kernel
theorem dX8_cut_4 : decode cX8_cut 4 = .ok (.ifCond .eq 10, 3) := by decide +kernel
theorem dX8_cut_7 : decode cX8_cut 7 = .ok (.aload_n 0, 1) := by decide +kernel
theorem dX8_cut_8 : decode cX8_cut 8 = .ok (.getfield 170, 3) := by decide +kernel
theorem dX8_cut_11 : decode cX8_cut 11 = .ok (.ifCond .eq 5, 3) := by decide +kernel
theorem dX8_cut_14 : decode cX8_cut 14 = .ok (.iconst 0, 1) := by decide +kernel
theorem dX8_cut_15 : decode cX8_cut 15 = .ok (.ireturn, 1) := by decide +kernel
theorem dX8_cut_16 : decode cX8_cut 16 = .ok (.aload_n 0, 1) := by decide +kernel
theorem dX8_cut_17 : decode cX8_cut 17 = .ok (.iconst 1, 1) := by decide +kernel
theorem dX8_cut_18 : decode cX8_cut 18 = .ok (.putfield 170, 3) := by decide +kernel
theorem dX8_cut_21 : decode cX8_cut 21 = .ok (.iconst 1, 1) := by decide +kernel
theorem dX8_cut_22 : decode cX8_cut 22 = .ok (.ireturn, 1) := by decide +kernel
theorem dX8_on_0 : decode cX8_on 0 = .ok (.aload_n 0, 1) := by decide +kernel
theorem dX8_on_1 : decode cX8_on 1 = .ok (.getfield 170, 3) := by decide +kernel
theorem dX8_on_4 : decode cX8_on 4 = .ok (.ifCond .ne 6, 3) := by decide +kernel
theorem dX8_on_7 : decode cX8_on 7 = .ok (.bipush (-2), 2) := by decide +kernel
theorem dX8_on_9 : decode cX8_on 9 = .ok (.ireturn, 1) := by decide +kernel
theorem dX8_on_10 : decode cX8_on 10 = .ok (.aload_n 0, 1) := by decide +kernel
theorem dX8_on_11 : decode cX8_on 11 = .ok (.iconst 0, 1) := by decide +kernel
theorem dX8_on_12 : decode cX8_on 12 = .ok (.putfield 170, 3) := by decide +kernel
theorem dX8_on_15 : decode cX8_on 15 = .ok (.aload_n 0, 1) := by decide +kernel
theorem dX8_on_16 : decode cX8_on 16 = .ok (.getfield 190, 3) := by decide +kernel
theorem dX8_on_19 : decode cX8_on 19 = .ok (.aload_n 0, 1) := by decide +kernel
theorem dX8_on_20 : decode cX8_on 20 = .ok (.getfield 173, 3) := by decide +kernel
theorem dX8_on_23 : decode cX8_on 23 = .ok (.if_icmp .gt 11, 3) := by decide +kernel
theorem dX8_on_26 : decode cX8_on 26 = .ok (.aload_n 0, 1) := by decide +kernel
theorem dX8_on_27 : decode cX8_on 27 = .ok (.iconst 0, 1) := by decide +kernel
theorem dX8_on_28 : decode cX8_on 28 = .ok (.putfield 190, 3) := by decide +kernel
theorem dX8_on_31 : decode cX8_on 31 = .ok (.goto 25, 3) := by decide +kernel
theorem dX8_on_34 : decode cX8_on 34 = .ok (.aload_n 0, 1) := by decide +kernel
theorem dX8_on_35 : decode cX8_on 35 = .ok (.dup, 1) := by decide +kernel
theorem dX8_on_36 : decode cX8_on 36 = .ok (.getfield 190, 3) := by decide +kernel
theorem dX8_on_39 : decode cX8_on 39 = .ok (.aload_n 0, 1) := by decide +kernel
theorem dX8_on_40 : decode cX8_on 40 = .ok (.getfield 190, 3) := by decide +kernel
theorem dX8_on_43 : decode cX8_on 43 = .ok (.aload_n 0, 1) := by decide +kernel
theorem dX8_on_44 : decode cX8_on 44 = .ok (.getfield 173, 3) := by decide +kernel
theorem dX8_on_47 : decode cX8_on 47 = .ok (.isub, 1) := by decide +kernel
theorem dX8_on_48 : decode cX8_on 48 = .ok (.iconst 1, 1) := by decide +kernel
theorem dX8_on_49 : decode cX8_on 49 = .ok (.isub, 1) := by decide +kernel
theorem dX8_on_50 : decode cX8_on 50 = .ok (.iconst 2, 1) := by decide +kernel
theorem dX8_on_51 : decode cX8_on 51 = .ok (.irem, 1) := by decide +kernel
theorem dX8_on_52 : decode cX8_on 52 = .ok (.isub, 1) := by decide +kernel
theorem dX8_on_53 : decode cX8_on 53 = .ok (.putfield 190, 3) := by decide +kernel
theorem dX8_on_56 : decode cX8_on 56 = .ok (.aload_n 0, 1) := by decide +kernel
theorem dX8_on_57 : decode cX8_on 57 = .ok (.invokevirtual 193, 3) := by decide +kernel
theorem dX8_on_60 : decode cX8_on 60 = .ok (.aload_n 0, 1) := by decide +kernel
theorem dX8_on_61 : decode cX8_on 61 = .ok (.getfield 190, 3) := by decide +kernel
theorem dX8_on_64 : decode cX8_on 64 = .ok (.isub, 1) := by decide +kernel
theorem dX8_on_65 : decode cX8_on 65 = .ok (.ireturn, 1) := by decide +kernel
theorem dX8_device_0 : decode cX8_device 0 = .ok (.iload_n 1, 1) := by decide +kernel
theorem dX8_device_1 : decode cX8_device 1 = .ok (.tableswitch 165 0 6 #[43, 48, 53, 77, 82, 105, 141], 43) := by decide +kernel
theorem dX8_device_44 : decode cX8_device 44 = .ok (.aload_n 0, 1) := by decide +kernel
theorem dX8_device_45 : decode cX8_device 45 = .ok (.getfield 163, 3) := by decide +kernel
theorem dX8_device_48 : decode cX8_device 48 = .ok (.ireturn, 1) := by decide +kernel
theorem dX8_device_49 : decode cX8_device 49 = .ok (.aload_n 0, 1) := by decide +kernel
theorem dX8_device_50 : decode cX8_device 50 = .ok (.invokevirtual 179, 3) := by decide +kernel
theorem dX8_device_53 : decode cX8_device 53 = .ok (.ireturn, 1) := by decide +kernel
theorem dX8_device_54 : decode cX8_device 54 = .ok (.aload_n 0, 1) := by decide +kernel
theorem dX8_device_55 : decode cX8_device 55 = .ok (.getfield 166, 3) := by decide +kernel
theorem dX8_device_58 : decode cX8_device 58 = .ok (.ifCond .ne 7, 3) := by decide +kernel
theorem dX8_device_61 : decode cX8_device 61 = .ok (.iconst 0, 1) := by decide +kernel
theorem dX8_device_62 : decode cX8_device 62 = .ok (.goto 15, 3) := by decide +kernel
theorem dX8_device_65 : decode cX8_device 65 = .ok (.aload_n 0, 1) := by decide +kernel
theorem dX8_device_66 : decode cX8_device 66 = .ok (.getfield 170, 3) := by decide +kernel
theorem dX8_device_69 : decode cX8_device 69 = .ok (.ifCond .eq 7, 3) := by decide +kernel
theorem dX8_device_72 : decode cX8_device 72 = .ok (.iconst 2, 1) := by decide +kernel
theorem dX8_device_73 : decode cX8_device 73 = .ok (.goto 4, 3) := by decide +kernel
theorem dX8_device_76 : decode cX8_device 76 = .ok (.iconst 1, 1) := by decide +kernel
theorem dX8_device_77 : decode cX8_device 77 = .ok (.ireturn, 1) := by decide +kernel
theorem dX8_device_78 : decode cX8_device 78 = .ok (.aload_n 0, 1) := by decide +kernel
theorem dX8_device_79 : decode cX8_device 79 = .ok (.getfield 196, 3) := by decide +kernel
theorem dX8_device_82 : decode cX8_device 82 = .ok (.ireturn, 1) := by decide +kernel
theorem dX8_device_83 : decode cX8_device 83 = .ok (.aload_n 0, 1) := by decide +kernel
theorem dX8_device_84 : decode cX8_device 84 = .ok (.getfield 166, 3) := by decide +kernel
theorem dX8_device_87 : decode cX8_device 87 = .ok (.ifCond .eq 17, 3) := by decide +kernel
theorem dX8_device_90 : decode cX8_device 90 = .ok (.aload_n 0, 1) := by decide +kernel
theorem dX8_device_91 : decode cX8_device 91 = .ok (.getfield 190, 3) := by decide +kernel
theorem dX8_device_94 : decode cX8_device 94 = .ok (.aload_n 0, 1) := by decide +kernel
theorem dX8_device_95 : decode cX8_device 95 = .ok (.getfield 173, 3) := by decide +kernel
theorem dX8_device_98 : decode cX8_device 98 = .ok (.invokestatic 111, 3) := by decide +kernel
theorem dX8_device_101 : decode cX8_device 101 = .ok (.goto 4, 3) := by decide +kernel
theorem dX8_device_104 : decode cX8_device 104 = .ok (.iconst 0, 1) := by decide +kernel
theorem dX8_device_105 : decode cX8_device 105 = .ok (.ireturn, 1) := by decide +kernel
theorem dX8_device_106 : decode cX8_device 106 = .ok (.aload_n 0, 1) := by decide +kernel
theorem dX8_device_107 : decode cX8_device 107 = .ok (.getfield 166, 3) := by decide +kernel
theorem dX8_device_110 : decode cX8_device 110 = .ok (.ifCond .eq 30, 3) := by decide +kernel
theorem dX8_device_113 : decode cX8_device 113 = .ok (.aload_n 0, 1) := by decide +kernel
theorem dX8_device_114 : decode cX8_device 114 = .ok (.getfield 190, 3) := by decide +kernel
theorem dX8_device_117 : decode cX8_device 117 = .ok (.aload_n 0, 1) := by decide +kernel
theorem dX8_device_118 : decode cX8_device 118 = .ok (.getfield 173, 3) := by decide +kernel
theorem dX8_device_121 : decode cX8_device 121 = .ok (.if_icmp .le 19, 3) := by decide +kernel
theorem dX8_device_124 : decode cX8_device 124 = .ok (.aload_n 0, 1) := by decide +kernel
theorem dX8_device_125 : decode cX8_device 125 = .ok (.getfield 190, 3) := by decide +kernel
theorem dX8_device_128 : decode cX8_device 128 = .ok (.aload_n 0, 1) := by decide +kernel
theorem dX8_device_129 : decode cX8_device 129 = .ok (.getfield 173, 3) := by decide +kernel
theorem dX8_device_132 : decode cX8_device 132 = .ok (.isub, 1) := by decide +kernel
theorem dX8_device_133 : decode cX8_device 133 = .ok (.iconst 1, 1) := by decide +kernel
theorem dX8_device_134 : decode cX8_device 134 = .ok (.isub, 1) := by decide +kernel
theorem dX8_device_135 : decode cX8_device 135 = .ok (.iconst 2, 1) := by decide +kernel
theorem dX8_device_136 : decode cX8_device 136 = .ok (.idiv, 1) := by decide +kernel
theorem dX8_device_137 : decode cX8_device 137 = .ok (.goto 4, 3) := by decide +kernel
theorem dX8_device_140 : decode cX8_device 140 = .ok (.iconst (-1), 1) := by decide +kernel
theorem dX8_device_141 : decode cX8_device 141 = .ok (.ireturn, 1) := by decide +kernel
theorem dX8_device_142 : decode cX8_device 142 = .ok (.aload_n 0, 1) := by decide +kernel
theorem dX8_device_143 : decode cX8_device 143 = .ok (.getfield 166, 3) := by decide +kernel
theorem dX8_device_146 : decode cX8_device 146 = .ok (.ifCond .ne 7, 3) := by decide +kernel
theorem dX8_device_149 : decode cX8_device 149 = .ok (.iconst (-1), 1) := by decide +kernel
theorem dX8_device_150 : decode cX8_device 150 = .ok (.goto 15, 3) := by decide +kernel
theorem dX8_device_153 : decode cX8_device 153 = .ok (.aload_n 0, 1) := by decide +kernel
theorem dX8_device_154 : decode cX8_device 154 = .ok (.getfield 187, 3) := by decide +kernel
theorem dX8_device_157 : decode cX8_device 157 = .ok (.ifCond .eq 7, 3) := by decide +kernel
theorem dX8_device_160 : decode cX8_device 160 = .ok (.iconst 1, 1) := by decide +kernel
theorem dX8_device_161 : decode cX8_device 161 = .ok (.goto 4, 3) := by decide +kernel
theorem dX8_device_164 : decode cX8_device 164 = .ok (.iconst 0, 1) := by decide +kernel
theorem dX8_device_165 : decode cX8_device 165 = .ok (.ireturn, 1) := by decide +kernel
theorem dX8_device_166 : decode cX8_device 166 = .ok (.iload_n 1, 1) := by decide +kernel
theorem dX8_device_167 : decode cX8_device 167 = .ok (.bipush 10, 2) := by decide +kernel
theorem dX8_device_169 : decode cX8_device 169 = .ok (.sipush 129, 3) := by decide +kernel
theorem dX8_device_172 : decode cX8_device 172 = .ok (.invokestatic 99, 3) := by decide +kernel
theorem dX8_device_175 : decode cX8_device 175 = .ok (.ifCond .eq 19, 3) := by decide +kernel
theorem dX8_device_178 : decode cX8_device 178 = .ok (.aload_n 0, 1) := by decide +kernel
theorem dX8_device_179 : decode cX8_device 179 = .ok (.getfield 66, 3) := by decide +kernel
theorem dX8_device_182 : decode cX8_device 182 = .ok (.iload_n 1, 1) := by decide +kernel
theorem dX8_device_183 : decode cX8_device 183 = .ok (.bipush 10, 2) := by decide +kernel
theorem dX8_device_185 : decode cX8_device 185 = .ok (.isub, 1) := by decide +kernel
theorem dX8_device_186 : decode cX8_device 186 = .ok (.baload, 1) := by decide +kernel
theorem dX8_device_187 : decode cX8_device 187 = .ok (.sipush 255, 3) := by decide +kernel
theorem dX8_device_190 : decode cX8_device 190 = .ok (.iand, 1) := by decide +kernel
theorem dX8_device_191 : decode cX8_device 191 = .ok (.goto 4, 3) := by decide +kernel
theorem dX8_device_194 : decode cX8_device 194 = .ok (.iconst (-1), 1) := by decide +kernel
theorem dX8_device_195 : decode cX8_device 195 = .ok (.ireturn, 1) := by decide +kernel
theorem dX8_fleet_0 : decode cX8_fleet 0 = .ok (.aload_n 0, 1) := by decide +kernel
theorem dX8_fleet_1 : decode cX8_fleet 1 = .ok (.iload_n 1, 1) := by decide +kernel
theorem dX8_fleet_2 : decode cX8_fleet 2 = .ok (.invokevirtual 117, 3) := by decide +kernel
theorem dX8_fleet_5 : decode cX8_fleet 5 = .ok (.ifCond .eq 14, 3) := by decide +kernel
theorem dX8_fleet_8 : decode cX8_fleet 8 = .ok (.iload_n 2, 1) := by decide +kernel
theorem dX8_fleet_9 : decode cX8_fleet 9 = .ok (.iconst 0, 1) := by decide +kernel
theorem dX8_fleet_10 : decode cX8_fleet 10 = .ok (.sipush 1000, 3) := by decide +kernel
theorem dX8_fleet_13 : decode cX8_fleet 13 = .ok (.invokestatic 99, 3) := by decide +kernel
theorem dX8_fleet_16 : decode cX8_fleet 16 = .ok (.ifCond .ne 5, 3) := by decide +kernel
theorem dX8_fleet_19 : decode cX8_fleet 19 = .ok (.iconst 0, 1) := by decide +kernel
theorem dX8_fleet_20 : decode cX8_fleet 20 = .ok (.ireturn, 1) := by decide +kernel
theorem dX8_fleet_21 : decode cX8_fleet 21 = .ok (.aload_n 0, 1) := by decide +kernel
theorem dX8_fleet_22 : decode cX8_fleet 22 = .ok (.getfield 87, 3) := by decide +kernel
theorem dX8_fleet_25 : decode cX8_fleet 25 = .ok (.iload_n 1, 1) := by decide +kernel
theorem dX8_fleet_26 : decode cX8_fleet 26 = .ok (.iload_n 2, 1) := by decide +kernel
theorem dX8_fleet_27 : decode cX8_fleet 27 = .ok (.iastore, 1) := by decide +kernel
theorem dX8_fleet_28 : decode cX8_fleet 28 = .ok (.iconst 1, 1) := by decide +kernel
theorem dX8_fleet_29 : decode cX8_fleet 29 = .ok (.ireturn, 1) := by decide +kernel
theorem dX8_pair_0 : decode cX8_pair 0 = .ok (.iload_n 0, 1) := by decide +kernel
theorem dX8_pair_1 : decode cX8_pair 1 = .ok (.ifCond .ne 9, 3) := by decide +kernel
theorem dX8_pair_4 : decode cX8_pair 4 = .ok (.iload_n 1, 1) := by decide +kernel
theorem dX8_pair_5 : decode cX8_pair 5 = .ok (.iconst 1, 1) := by decide +kernel
theorem dX8_pair_6 : decode cX8_pair 6 = .ok (.isub, 1) := by decide +kernel
theorem dX8_pair_7 : decode cX8_pair 7 = .ok (.goto 27, 3) := by decide +kernel
theorem dX8_pair_10 : decode cX8_pair 10 = .ok (.iload_n 0, 1) := by decide +kernel
theorem dX8_pair_11 : decode cX8_pair 11 = .ok (.iconst 1, 1) := by decide +kernel
theorem dX8_pair_12 : decode cX8_pair 12 = .ok (.if_icmp .ne 9, 3) := by decide +kernel
theorem dX8_pair_15 : decode cX8_pair 15 = .ok (.iload_n 1, 1) := by decide +kernel
theorem dX8_pair_16 : decode cX8_pair 16 = .ok (.iconst 2, 1) := by decide +kernel
theorem dX8_pair_17 : decode cX8_pair 17 = .ok (.iadd, 1) := by decide +kernel
theorem dX8_pair_18 : decode cX8_pair 18 = .ok (.goto 16, 3) := by decide +kernel
theorem dX8_pair_21 : decode cX8_pair 21 = .ok (.iload_n 0, 1) := by decide +kernel
theorem dX8_pair_22 : decode cX8_pair 22 = .ok (.iconst 2, 1) := by decide +kernel
theorem dX8_pair_23 : decode cX8_pair 23 = .ok (.if_icmp .ne 9, 3) := by decide +kernel
theorem dX8_pair_26 : decode cX8_pair 26 = .ok (.iload_n 1, 1) := by decide +kernel
theorem dX8_pair_27 : decode cX8_pair 27 = .ok (.iconst 4, 1) := by decide +kernel
theorem dX8_pair_28 : decode cX8_pair 28 = .ok (.iadd, 1) := by decide +kernel
theorem dX8_pair_29 : decode cX8_pair 29 = .ok (.goto 5, 3) := by decide +kernel
theorem dX8_pair_32 : decode cX8_pair 32 = .ok (.bipush 9, 2) := by decide +kernel
theorem dX8_pair_34 : decode cX8_pair 34 = .ok (.ireturn, 1) := by decide +kernel
theorem dX8_hold_0 : decode cX8_hold 0 = .ok (.aload_n 0, 1) := by decide +kernel
theorem dX8_hold_1 : decode cX8_hold 1 = .ok (.iload_n 1, 1) := by decide +kernel
theorem dX8_hold_2 : decode cX8_hold 2 = .ok (.invokevirtual 117, 3) := by decide +kernel
theorem dX8_hold_5 : decode cX8_hold 5 = .ok (.ifCond .eq 30, 3) := by decide +kernel
theorem dX8_hold_8 : decode cX8_hold 8 = .ok (.aload_n 0, 1) := by decide +kernel
theorem dX8_hold_9 : decode cX8_hold 9 = .ok (.iload_n 2, 1) := by decide +kernel
theorem dX8_hold_10 : decode cX8_hold 10 = .ok (.invokevirtual 117, 3) := by decide +kernel
theorem dX8_hold_13 : decode cX8_hold 13 = .ok (.ifCond .eq 22, 3) := by decide +kernel
theorem dX8_hold_16 : decode cX8_hold 16 = .ok (.iload_n 1, 1) := by decide +kernel
theorem dX8_hold_17 : decode cX8_hold 17 = .ok (.iload_n 2, 1) := by decide +kernel
theorem dX8_hold_18 : decode cX8_hold 18 = .ok (.if_icmp .ge 17, 3) := by decide +kernel
theorem dX8_hold_21 : decode cX8_hold 21 = .ok (.aload_n 0, 1) := by decide +kernel
theorem dX8_hold_22 : decode cX8_hold 22 = .ok (.getfield 90, 3) := by decide +kernel
theorem dX8_hold_25 : decode cX8_hold 25 = .ok (.iload_n 1, 1) := by decide +kernel
theorem dX8_hold_26 : decode cX8_hold 26 = .ok (.iload_n 2, 1) := by decide +kernel
theorem dX8_hold_27 : decode cX8_hold 27 = .ok (.invokestatic 202, 3) := by decide +kernel
theorem dX8_hold_30 : decode cX8_hold 30 = .ok (.baload, 1) := by decide +kernel
theorem dX8_hold_31 : decode cX8_hold 31 = .ok (.iload_n 3, 1) := by decide +kernel
theorem dX8_hold_32 : decode cX8_hold 32 = .ok (.if_icmp .ne 5, 3) := by decide +kernel
theorem dX8_hold_35 : decode cX8_hold 35 = .ok (.iconst 0, 1) := by decide +kernel
theorem dX8_hold_36 : decode cX8_hold 36 = .ok (.ireturn, 1) := by decide +kernel
theorem dX8_hold_37 : decode cX8_hold 37 = .ok (.aload_n 0, 1) := by decide +kernel
theorem dX8_hold_38 : decode cX8_hold 38 = .ok (.getfield 90, 3) := by decide +kernel
theorem dX8_hold_41 : decode cX8_hold 41 = .ok (.iload_n 1, 1) := by decide +kernel
theorem dX8_hold_42 : decode cX8_hold 42 = .ok (.iload_n 2, 1) := by decide +kernel
theorem dX8_hold_43 : decode cX8_hold 43 = .ok (.invokestatic 202, 3) := by decide +kernel
theorem dX8_hold_46 : decode cX8_hold 46 = .ok (.iload_n 3, 1) := by decide +kernel
theorem dX8_hold_47 : decode cX8_hold 47 = .ok (.bastore, 1) := by decide +kernel
theorem dX8_hold_48 : decode cX8_hold 48 = .ok (.iconst 1, 1) := by decide +kernel
theorem dX8_hold_49 : decode cX8_hold 49 = .ok (.ireturn, 1) := by decide +kernel
theorem dX8_greatest_0 : decode cX8_greatest 0 = .ok (.iconst (-1), 1) := by decide +kernel
theorem dX8_greatest_1 : decode cX8_greatest 1 = .ok (.istore_n 1, 1) := by decide +kernel
theorem dX8_greatest_2 : decode cX8_greatest 2 = .ok (.iconst 0, 1) := by decide +kernel
theorem dX8_greatest_3 : decode cX8_greatest 3 = .ok (.istore_n 2, 1) := by decide +kernel
theorem dX8_greatest_4 : decode cX8_greatest 4 = .ok (.iload_n 2, 1) := by decide +kernel
theorem dX8_greatest_5 : decode cX8_greatest 5 = .ok (.iconst 5, 1) := by decide +kernel
theorem dX8_greatest_6 : decode cX8_greatest 6 = .ok (.if_icmp .ge 20, 3) := by decide +kernel
theorem dX8_greatest_9 : decode cX8_greatest 9 = .ok (.aload_n 0, 1) := by decide +kernel
theorem dX8_greatest_10 : decode cX8_greatest 10 = .ok (.getfield 16, 3) := by decide +kernel
theorem dX8_greatest_13 : decode cX8_greatest 13 = .ok (.iload_n 2, 1) := by decide +kernel
theorem dX8_greatest_14 : decode cX8_greatest 14 = .ok (.iaload, 1) := by decide +kernel
theorem dX8_greatest_15 : decode cX8_greatest 15 = .ok (.ifCond .le 5, 3) := by decide +kernel
theorem dX8_greatest_18 : decode cX8_greatest 18 = .ok (.iload_n 2, 1) := by decide +kernel
theorem dX8_greatest_19 : decode cX8_greatest 19 = .ok (.istore_n 1, 1) := by decide +kernel
theorem dX8_greatest_20 : decode cX8_greatest 20 = .ok (.iinc 2 1, 3) := by decide +kernel
theorem dX8_greatest_23 : decode cX8_greatest 23 = .ok (.goto (-19), 3) := by decide +kernel
theorem dX8_greatest_26 : decode cX8_greatest 26 = .ok (.iload_n 1, 1) := by decide +kernel
theorem dX8_greatest_27 : decode cX8_greatest 27 = .ok (.ireturn, 1) := by decide +kernel
theorem dX8_pairCosts_0 : decode cX8_pairCosts 0 = .ok (.iconst 0, 1) := by decide +kernel
theorem dX8_pairCosts_1 : decode cX8_pairCosts 1 = .ok (.istore_n 1, 1) := by decide +kernel
theorem dX8_pairCosts_2 : decode cX8_pairCosts 2 = .ok (.iload_n 1, 1) := by decide +kernel
theorem dX8_pairCosts_3 : decode cX8_pairCosts 3 = .ok (.iconst 5, 1) := by decide +kernel
theorem dX8_pairCosts_4 : decode cX8_pairCosts 4 = .ok (.if_icmp .ge 60, 3) := by decide +kernel
theorem dX8_pairCosts_7 : decode cX8_pairCosts 7 = .ok (.iload_n 1, 1) := by decide +kernel
theorem dX8_pairCosts_8 : decode cX8_pairCosts 8 = .ok (.iconst 1, 1) := by decide +kernel
theorem dX8_pairCosts_9 : decode cX8_pairCosts 9 = .ok (.iadd, 1) := by decide +kernel
theorem dX8_pairCosts_10 : decode cX8_pairCosts 10 = .ok (.istore_n 2, 1) := by decide +kernel
theorem dX8_pairCosts_11 : decode cX8_pairCosts 11 = .ok (.iload_n 2, 1) := by decide +kernel
theorem dX8_pairCosts_12 : decode cX8_pairCosts 12 = .ok (.iconst 5, 1) := by decide +kernel
theorem dX8_pairCosts_13 : decode cX8_pairCosts 13 = .ok (.if_icmp .ge 45, 3) := by decide +kernel
theorem dX8_pairCosts_16 : decode cX8_pairCosts 16 = .ok (.aload_n 0, 1) := by decide +kernel
theorem dX8_pairCosts_17 : decode cX8_pairCosts 17 = .ok (.getfield 93, 3) := by decide +kernel
theorem dX8_pairCosts_20 : decode cX8_pairCosts 20 = .ok (.iload_n 1, 1) := by decide +kernel
theorem dX8_pairCosts_21 : decode cX8_pairCosts 21 = .ok (.iload_n 2, 1) := by decide +kernel
theorem dX8_pairCosts_22 : decode cX8_pairCosts 22 = .ok (.invokestatic 202, 3) := by decide +kernel
theorem dX8_pairCosts_25 : decode cX8_pairCosts 25 = .ok (.aload_n 0, 1) := by decide +kernel
theorem dX8_pairCosts_26 : decode cX8_pairCosts 26 = .ok (.iload_n 1, 1) := by decide +kernel
theorem dX8_pairCosts_27 : decode cX8_pairCosts 27 = .ok (.invokevirtual 117, 3) := by decide +kernel
theorem dX8_pairCosts_30 : decode cX8_pairCosts 30 = .ok (.ifCond .eq 20, 3) := by decide +kernel
theorem dX8_pairCosts_33 : decode cX8_pairCosts 33 = .ok (.aload_n 0, 1) := by decide +kernel
theorem dX8_pairCosts_34 : decode cX8_pairCosts 34 = .ok (.iload_n 2, 1) := by decide +kernel
theorem dX8_pairCosts_35 : decode cX8_pairCosts 35 = .ok (.invokevirtual 117, 3) := by decide +kernel
theorem dX8_pairCosts_38 : decode cX8_pairCosts 38 = .ok (.ifCond .eq 12, 3) := by decide +kernel
theorem dX8_pairCosts_41 : decode cX8_pairCosts 41 = .ok (.aload_n 0, 1) := by decide +kernel
theorem dX8_pairCosts_42 : decode cX8_pairCosts 42 = .ok (.iload_n 1, 1) := by decide +kernel
theorem dX8_pairCosts_43 : decode cX8_pairCosts 43 = .ok (.iload_n 2, 1) := by decide +kernel
theorem dX8_pairCosts_44 : decode cX8_pairCosts 44 = .ok (.invokevirtual 205, 3) := by decide +kernel
theorem dX8_pairCosts_47 : decode cX8_pairCosts 47 = .ok (.goto 4, 3) := by decide +kernel
theorem dX8_pairCosts_50 : decode cX8_pairCosts 50 = .ok (.iconst (-1), 1) := by decide +kernel
theorem dX8_pairCosts_51 : decode cX8_pairCosts 51 = .ok (.iastore, 1) := by decide +kernel
theorem dX8_pairCosts_52 : decode cX8_pairCosts 52 = .ok (.iinc 2 1, 3) := by decide +kernel
theorem dX8_pairCosts_55 : decode cX8_pairCosts 55 = .ok (.goto (-44), 3) := by decide +kernel
theorem dX8_pairCosts_58 : decode cX8_pairCosts 58 = .ok (.iinc 1 1, 3) := by decide +kernel
theorem dX8_pairCosts_61 : decode cX8_pairCosts 61 = .ok (.goto (-59), 3) := by decide +kernel
theorem dX8_pairCosts_64 : decode cX8_pairCosts 64 = .ok (.return_, 1) := by decide +kernel
theorem dX8_sentBy_0 : decode cX8_sentBy 0 = .ok (.aload_n 0, 1) := by decide +kernel
theorem dX8_sentBy_1 : decode cX8_sentBy 1 = .ok (.invokevirtual 208, 3) := by decide +kernel
theorem dX8_sentBy_4 : decode cX8_sentBy 4 = .ok (.istore_n 2, 1) := by decide +kernel
theorem dX8_sentBy_5 : decode cX8_sentBy 5 = .ok (.iconst 0, 1) := by decide +kernel
theorem dX8_sentBy_6 : decode cX8_sentBy 6 = .ok (.istore_n 3, 1) := by decide +kernel
theorem dX8_sentBy_7 : decode cX8_sentBy 7 = .ok (.iload_n 2, 1) := by decide +kernel
theorem dX8_sentBy_8 : decode cX8_sentBy 8 = .ok (.istore 4, 2) := by decide +kernel
theorem dX8_sentBy_10 : decode cX8_sentBy 10 = .ok (.iload 4, 2) := by decide +kernel
theorem dX8_sentBy_12 : decode cX8_sentBy 12 = .ok (.ifCond .lt 148, 3) := by decide +kernel
theorem dX8_sentBy_15 : decode cX8_sentBy 15 = .ok (.aload_n 0, 1) := by decide +kernel
theorem dX8_sentBy_16 : decode cX8_sentBy 16 = .ok (.getfield 96, 3) := by decide +kernel
theorem dX8_sentBy_19 : decode cX8_sentBy 19 = .ok (.iload 4, 2) := by decide +kernel
theorem dX8_sentBy_21 : decode cX8_sentBy 21 = .ok (.iload 4, 2) := by decide +kernel
theorem dX8_sentBy_23 : decode cX8_sentBy 23 = .ok (.iload_n 2, 1) := by decide +kernel
theorem dX8_sentBy_24 : decode cX8_sentBy 24 = .ok (.if_icmp .ne 7, 3) := by decide +kernel
theorem dX8_sentBy_27 : decode cX8_sentBy 27 = .ok (.iconst 0, 1) := by decide +kernel
theorem dX8_sentBy_28 : decode cX8_sentBy 28 = .ok (.goto 11, 3) := by decide +kernel
theorem dX8_sentBy_31 : decode cX8_sentBy 31 = .ok (.iconst 3, 1) := by decide +kernel
theorem dX8_sentBy_32 : decode cX8_sentBy 32 = .ok (.aload_n 0, 1) := by decide +kernel
theorem dX8_sentBy_33 : decode cX8_sentBy 33 = .ok (.getfield 16, 3) := by decide +kernel
theorem dX8_sentBy_36 : decode cX8_sentBy 36 = .ok (.iload_n 2, 1) := by decide +kernel
theorem dX8_sentBy_37 : decode cX8_sentBy 37 = .ok (.iaload, 1) := by decide +kernel
theorem dX8_sentBy_38 : decode cX8_sentBy 38 = .ok (.iadd, 1) := by decide +kernel
theorem dX8_sentBy_39 : decode cX8_sentBy 39 = .ok (.iastore, 1) := by decide +kernel
theorem dX8_sentBy_40 : decode cX8_sentBy 40 = .ok (.iload 4, 2) := by decide +kernel
theorem dX8_sentBy_42 : decode cX8_sentBy 42 = .ok (.iconst 1, 1) := by decide +kernel
theorem dX8_sentBy_43 : decode cX8_sentBy 43 = .ok (.iadd, 1) := by decide +kernel
theorem dX8_sentBy_44 : decode cX8_sentBy 44 = .ok (.istore 5, 2) := by decide +kernel
theorem dX8_sentBy_46 : decode cX8_sentBy 46 = .ok (.iload 5, 2) := by decide +kernel
theorem dX8_sentBy_48 : decode cX8_sentBy 48 = .ok (.iload_n 2, 1) := by decide +kernel
theorem dX8_sentBy_49 : decode cX8_sentBy 49 = .ok (.if_icmp .gt 77, 3) := by decide +kernel
theorem dX8_sentBy_52 : decode cX8_sentBy 52 = .ok (.iload_n 1, 1) := by decide +kernel
theorem dX8_sentBy_53 : decode cX8_sentBy 53 = .ok (.iload 4, 2) := by decide +kernel
theorem dX8_sentBy_55 : decode cX8_sentBy 55 = .ok (.iload 5, 2) := by decide +kernel
theorem dX8_sentBy_57 : decode cX8_sentBy 57 = .ok (.invokestatic 202, 3) := by decide +kernel
theorem dX8_sentBy_60 : decode cX8_sentBy 60 = .ok (.ishr, 1) := by decide +kernel
theorem dX8_sentBy_61 : decode cX8_sentBy 61 = .ok (.iconst 1, 1) := by decide +kernel
theorem dX8_sentBy_62 : decode cX8_sentBy 62 = .ok (.iand, 1) := by decide +kernel
theorem dX8_sentBy_63 : decode cX8_sentBy 63 = .ok (.iconst 1, 1) := by decide +kernel
theorem dX8_sentBy_64 : decode cX8_sentBy 64 = .ok (.if_icmp .ne 56, 3) := by decide +kernel
theorem dX8_sentBy_67 : decode cX8_sentBy 67 = .ok (.aload_n 0, 1) := by decide +kernel
theorem dX8_sentBy_68 : decode cX8_sentBy 68 = .ok (.getfield 93, 3) := by decide +kernel
theorem dX8_sentBy_71 : decode cX8_sentBy 71 = .ok (.iload 4, 2) := by decide +kernel
theorem dX8_sentBy_73 : decode cX8_sentBy 73 = .ok (.iload 5, 2) := by decide +kernel
theorem dX8_sentBy_75 : decode cX8_sentBy 75 = .ok (.invokestatic 202, 3) := by decide +kernel
theorem dX8_sentBy_78 : decode cX8_sentBy 78 = .ok (.iaload, 1) := by decide +kernel
theorem dX8_sentBy_79 : decode cX8_sentBy 79 = .ok (.iconst (-1), 1) := by decide +kernel
theorem dX8_sentBy_80 : decode cX8_sentBy 80 = .ok (.if_icmp .eq 40, 3) := by decide +kernel
theorem dX8_sentBy_83 : decode cX8_sentBy 83 = .ok (.aload_n 0, 1) := by decide +kernel
theorem dX8_sentBy_84 : decode cX8_sentBy 84 = .ok (.getfield 96, 3) := by decide +kernel
theorem dX8_sentBy_87 : decode cX8_sentBy 87 = .ok (.iload 4, 2) := by decide +kernel
theorem dX8_sentBy_89 : decode cX8_sentBy 89 = .ok (.aload_n 0, 1) := by decide +kernel
theorem dX8_sentBy_90 : decode cX8_sentBy 90 = .ok (.getfield 96, 3) := by decide +kernel
theorem dX8_sentBy_93 : decode cX8_sentBy 93 = .ok (.iload 4, 2) := by decide +kernel
theorem dX8_sentBy_95 : decode cX8_sentBy 95 = .ok (.iaload, 1) := by decide +kernel
theorem dX8_sentBy_96 : decode cX8_sentBy 96 = .ok (.aload_n 0, 1) := by decide +kernel
theorem dX8_sentBy_97 : decode cX8_sentBy 97 = .ok (.getfield 93, 3) := by decide +kernel
theorem dX8_sentBy_100 : decode cX8_sentBy 100 = .ok (.iload 4, 2) := by decide +kernel
theorem dX8_sentBy_102 : decode cX8_sentBy 102 = .ok (.iload 5, 2) := by decide +kernel
theorem dX8_sentBy_104 : decode cX8_sentBy 104 = .ok (.invokestatic 202, 3) := by decide +kernel
theorem dX8_sentBy_107 : decode cX8_sentBy 107 = .ok (.iaload, 1) := by decide +kernel
theorem dX8_sentBy_108 : decode cX8_sentBy 108 = .ok (.aload_n 0, 1) := by decide +kernel
theorem dX8_sentBy_109 : decode cX8_sentBy 109 = .ok (.getfield 96, 3) := by decide +kernel
theorem dX8_sentBy_112 : decode cX8_sentBy 112 = .ok (.iload 5, 2) := by decide +kernel
theorem dX8_sentBy_114 : decode cX8_sentBy 114 = .ok (.iaload, 1) := by decide +kernel
theorem dX8_sentBy_115 : decode cX8_sentBy 115 = .ok (.iadd, 1) := by decide +kernel
theorem dX8_sentBy_116 : decode cX8_sentBy 116 = .ok (.invokestatic 111, 3) := by decide +kernel
theorem dX8_sentBy_119 : decode cX8_sentBy 119 = .ok (.iastore, 1) := by decide +kernel
theorem dX8_sentBy_120 : decode cX8_sentBy 120 = .ok (.iinc 5 1, 3) := by decide +kernel
theorem dX8_sentBy_123 : decode cX8_sentBy 123 = .ok (.goto (-77), 3) := by decide +kernel
theorem dX8_sentBy_126 : decode cX8_sentBy 126 = .ok (.aload_n 0, 1) := by decide +kernel
theorem dX8_sentBy_127 : decode cX8_sentBy 127 = .ok (.getfield 16, 3) := by decide +kernel
theorem dX8_sentBy_130 : decode cX8_sentBy 130 = .ok (.iload 4, 2) := by decide +kernel
theorem dX8_sentBy_132 : decode cX8_sentBy 132 = .ok (.iaload, 1) := by decide +kernel
theorem dX8_sentBy_133 : decode cX8_sentBy 133 = .ok (.ifCond .le 21, 3) := by decide +kernel
theorem dX8_sentBy_136 : decode cX8_sentBy 136 = .ok (.iload_n 3, 1) := by decide +kernel
theorem dX8_sentBy_137 : decode cX8_sentBy 137 = .ok (.aload_n 0, 1) := by decide +kernel
theorem dX8_sentBy_138 : decode cX8_sentBy 138 = .ok (.getfield 87, 3) := by decide +kernel
theorem dX8_sentBy_141 : decode cX8_sentBy 141 = .ok (.iload 4, 2) := by decide +kernel
theorem dX8_sentBy_143 : decode cX8_sentBy 143 = .ok (.iaload, 1) := by decide +kernel
theorem dX8_sentBy_144 : decode cX8_sentBy 144 = .ok (.aload_n 0, 1) := by decide +kernel
theorem dX8_sentBy_145 : decode cX8_sentBy 145 = .ok (.getfield 96, 3) := by decide +kernel
theorem dX8_sentBy_148 : decode cX8_sentBy 148 = .ok (.iload 4, 2) := by decide +kernel
theorem dX8_sentBy_150 : decode cX8_sentBy 150 = .ok (.iaload, 1) := by decide +kernel
theorem dX8_sentBy_151 : decode cX8_sentBy 151 = .ok (.imul, 1) := by decide +kernel
theorem dX8_sentBy_152 : decode cX8_sentBy 152 = .ok (.iadd, 1) := by decide +kernel
theorem dX8_sentBy_153 : decode cX8_sentBy 153 = .ok (.istore_n 3, 1) := by decide +kernel
theorem dX8_sentBy_154 : decode cX8_sentBy 154 = .ok (.iinc 4 (-1), 3) := by decide +kernel
theorem dX8_sentBy_157 : decode cX8_sentBy 157 = .ok (.goto (-147), 3) := by decide +kernel
theorem dX8_sentBy_160 : decode cX8_sentBy 160 = .ok (.iload_n 3, 1) := by decide +kernel
theorem dX8_sentBy_161 : decode cX8_sentBy 161 = .ok (.ireturn, 1) := by decide +kernel
theorem dX8_sent_0 : decode cX8_sent 0 = .ok (.aload_n 0, 1) := by decide +kernel
theorem dX8_sent_1 : decode cX8_sent 1 = .ok (.invokevirtual 208, 3) := by decide +kernel
theorem dX8_sent_4 : decode cX8_sent 4 = .ok (.iconst (-1), 1) := by decide +kernel
theorem dX8_sent_5 : decode cX8_sent 5 = .ok (.if_icmp .ne 5, 3) := by decide +kernel
theorem dX8_sent_8 : decode cX8_sent 8 = .ok (.iconst (-1), 1) := by decide +kernel
theorem dX8_sent_9 : decode cX8_sent 9 = .ok (.ireturn, 1) := by decide +kernel
theorem dX8_sent_10 : decode cX8_sent 10 = .ok (.aload_n 0, 1) := by decide +kernel
theorem dX8_sent_11 : decode cX8_sent 11 = .ok (.invokevirtual 211, 3) := by decide +kernel
theorem dX8_sent_14 : decode cX8_sent 14 = .ok (.iconst 0, 1) := by decide +kernel
theorem dX8_sent_15 : decode cX8_sent 15 = .ok (.istore_n 1, 1) := by decide +kernel
theorem dX8_sent_16 : decode cX8_sent 16 = .ok (.iconst 0, 1) := by decide +kernel
theorem dX8_sent_17 : decode cX8_sent 17 = .ok (.istore_n 2, 1) := by decide +kernel
theorem dX8_sent_18 : decode cX8_sent 18 = .ok (.iload_n 2, 1) := by decide +kernel
theorem dX8_sent_19 : decode cX8_sent 19 = .ok (.bipush 10, 2) := by decide +kernel
theorem dX8_sent_21 : decode cX8_sent 21 = .ok (.if_icmp .ge 28, 3) := by decide +kernel
theorem dX8_sent_24 : decode cX8_sent 24 = .ok (.iload_n 1, 1) := by decide +kernel
theorem dX8_sent_25 : decode cX8_sent 25 = .ok (.aload_n 0, 1) := by decide +kernel
theorem dX8_sent_26 : decode cX8_sent 26 = .ok (.getfield 90, 3) := by decide +kernel
theorem dX8_sent_29 : decode cX8_sent 29 = .ok (.iload_n 2, 1) := by decide +kernel
theorem dX8_sent_30 : decode cX8_sent 30 = .ok (.baload, 1) := by decide +kernel
theorem dX8_sent_31 : decode cX8_sent 31 = .ok (.ifCond .eq 9, 3) := by decide +kernel
theorem dX8_sent_34 : decode cX8_sent 34 = .ok (.iconst 1, 1) := by decide +kernel
theorem dX8_sent_35 : decode cX8_sent 35 = .ok (.iload_n 2, 1) := by decide +kernel
theorem dX8_sent_36 : decode cX8_sent 36 = .ok (.ishl, 1) := by decide +kernel
theorem dX8_sent_37 : decode cX8_sent 37 = .ok (.goto 4, 3) := by decide +kernel
theorem dX8_sent_40 : decode cX8_sent 40 = .ok (.iconst 0, 1) := by decide +kernel
theorem dX8_sent_41 : decode cX8_sent 41 = .ok (.ior, 1) := by decide +kernel
theorem dX8_sent_42 : decode cX8_sent 42 = .ok (.istore_n 1, 1) := by decide +kernel
theorem dX8_sent_43 : decode cX8_sent 43 = .ok (.iinc 2 1, 3) := by decide +kernel
theorem dX8_sent_46 : decode cX8_sent 46 = .ok (.goto (-28), 3) := by decide +kernel
theorem dX8_sent_49 : decode cX8_sent 49 = .ok (.aload_n 0, 1) := by decide +kernel
theorem dX8_sent_50 : decode cX8_sent 50 = .ok (.iload_n 1, 1) := by decide +kernel
theorem dX8_sent_51 : decode cX8_sent 51 = .ok (.invokevirtual 214, 3) := by decide +kernel
theorem dX8_sent_54 : decode cX8_sent 54 = .ok (.ireturn, 1) := by decide +kernel
theorem dX8_pairsIn_0 : decode cX8_pairsIn 0 = .ok (.iconst 0, 1) := by decide +kernel
theorem dX8_pairsIn_1 : decode cX8_pairsIn 1 = .ok (.istore_n 1, 1) := by decide +kernel
theorem dX8_pairsIn_2 : decode cX8_pairsIn 2 = .ok (.iload_n 0, 1) := by decide +kernel
theorem dX8_pairsIn_3 : decode cX8_pairsIn 3 = .ok (.istore_n 2, 1) := by decide +kernel
theorem dX8_pairsIn_4 : decode cX8_pairsIn 4 = .ok (.iload_n 2, 1) := by decide +kernel
theorem dX8_pairsIn_5 : decode cX8_pairsIn 5 = .ok (.ifCond .le 16, 3) := by decide +kernel
theorem dX8_pairsIn_8 : decode cX8_pairsIn 8 = .ok (.iload_n 1, 1) := by decide +kernel
theorem dX8_pairsIn_9 : decode cX8_pairsIn 9 = .ok (.iload_n 2, 1) := by decide +kernel
theorem dX8_pairsIn_10 : decode cX8_pairsIn 10 = .ok (.iconst 1, 1) := by decide +kernel
theorem dX8_pairsIn_11 : decode cX8_pairsIn 11 = .ok (.iand, 1) := by decide +kernel
theorem dX8_pairsIn_12 : decode cX8_pairsIn 12 = .ok (.iadd, 1) := by decide +kernel
theorem dX8_pairsIn_13 : decode cX8_pairsIn 13 = .ok (.istore_n 1, 1) := by decide +kernel
theorem dX8_pairsIn_14 : decode cX8_pairsIn 14 = .ok (.iload_n 2, 1) := by decide +kernel
theorem dX8_pairsIn_15 : decode cX8_pairsIn 15 = .ok (.iconst 1, 1) := by decide +kernel
theorem dX8_pairsIn_16 : decode cX8_pairsIn 16 = .ok (.ishr, 1) := by decide +kernel
theorem dX8_pairsIn_17 : decode cX8_pairsIn 17 = .ok (.istore_n 2, 1) := by decide +kernel
theorem dX8_pairsIn_18 : decode cX8_pairsIn 18 = .ok (.goto (-14), 3) := by decide +kernel
theorem dX8_pairsIn_21 : decode cX8_pairsIn 21 = .ok (.iload_n 1, 1) := by decide +kernel
theorem dX8_pairsIn_22 : decode cX8_pairsIn 22 = .ok (.ireturn, 1) := by decide +kernel
theorem dX8_isLess_0 : decode cX8_isLess 0 = .ok (.iload_n 0, 1) := by decide +kernel
theorem dX8_isLess_1 : decode cX8_isLess 1 = .ok (.iload_n 1, 1) := by decide +kernel
theorem dX8_isLess_2 : decode cX8_isLess 2 = .ok (.ixor, 1) := by decide +kernel
theorem dX8_isLess_3 : decode cX8_isLess 3 = .ok (.istore_n 2, 1) := by decide +kernel
theorem dX8_isLess_4 : decode cX8_isLess 4 = .ok (.iload_n 2, 1) := by decide +kernel
theorem dX8_isLess_5 : decode cX8_isLess 5 = .ok (.iload_n 2, 1) := by decide +kernel
theorem dX8_isLess_6 : decode cX8_isLess 6 = .ok (.ineg, 1) := by decide +kernel
theorem dX8_isLess_7 : decode cX8_isLess 7 = .ok (.iand, 1) := by decide +kernel
theorem dX8_isLess_8 : decode cX8_isLess 8 = .ok (.istore_n 3, 1) := by decide +kernel
theorem dX8_isLess_9 : decode cX8_isLess 9 = .ok (.iload_n 0, 1) := by decide +kernel
theorem dX8_isLess_10 : decode cX8_isLess 10 = .ok (.iload_n 3, 1) := by decide +kernel
theorem dX8_isLess_11 : decode cX8_isLess 11 = .ok (.iand, 1) := by decide +kernel
theorem dX8_isLess_12 : decode cX8_isLess 12 = .ok (.ifCond .eq 7, 3) := by decide +kernel
theorem dX8_isLess_15 : decode cX8_isLess 15 = .ok (.iconst 1, 1) := by decide +kernel
theorem dX8_isLess_16 : decode cX8_isLess 16 = .ok (.goto 4, 3) := by decide +kernel
theorem dX8_isLess_19 : decode cX8_isLess 19 = .ok (.iconst 0, 1) := by decide +kernel
theorem dX8_isLess_20 : decode cX8_isLess 20 = .ok (.ireturn, 1) := by decide +kernel
theorem dX8_best_0 : decode cX8_best 0 = .ok (.iload_n 1, 1) := by decide +kernel
theorem dX8_best_1 : decode cX8_best 1 = .ok (.iconst 0, 1) := by decide +kernel
theorem dX8_best_2 : decode cX8_best 2 = .ok (.iconst 3, 1) := by decide +kernel
theorem dX8_best_3 : decode cX8_best 3 = .ok (.invokestatic 99, 3) := by decide +kernel
theorem dX8_best_6 : decode cX8_best 6 = .ok (.ifCond .eq 20, 3) := by decide +kernel
theorem dX8_best_9 : decode cX8_best 9 = .ok (.iload_n 2, 1) := by decide +kernel
theorem dX8_best_10 : decode cX8_best 10 = .ok (.iconst 0, 1) := by decide +kernel
theorem dX8_best_11 : decode cX8_best 11 = .ok (.iconst 2, 1) := by decide +kernel
theorem dX8_best_12 : decode cX8_best 12 = .ok (.invokestatic 99, 3) := by decide +kernel
theorem dX8_best_15 : decode cX8_best 15 = .ok (.ifCond .eq 11, 3) := by decide +kernel
theorem dX8_best_18 : decode cX8_best 18 = .ok (.aload_n 0, 1) := by decide +kernel
theorem dX8_best_19 : decode cX8_best 19 = .ok (.invokevirtual 208, 3) := by decide +kernel
theorem dX8_best_22 : decode cX8_best 22 = .ok (.iconst (-1), 1) := by decide +kernel
theorem dX8_best_23 : decode cX8_best 23 = .ok (.if_icmp .ne 5, 3) := by decide +kernel
theorem dX8_best_26 : decode cX8_best 26 = .ok (.iconst (-1), 1) := by decide +kernel
theorem dX8_best_27 : decode cX8_best 27 = .ok (.ireturn, 1) := by decide +kernel
theorem dX8_best_28 : decode cX8_best 28 = .ok (.aload_n 0, 1) := by decide +kernel
theorem dX8_best_29 : decode cX8_best 29 = .ok (.invokevirtual 211, 3) := by decide +kernel
theorem dX8_best_32 : decode cX8_best 32 = .ok (.iconst 0, 1) := by decide +kernel
theorem dX8_best_33 : decode cX8_best 33 = .ok (.istore_n 3, 1) := by decide +kernel
theorem dX8_best_34 : decode cX8_best 34 = .ok (.aload_n 0, 1) := by decide +kernel
theorem dX8_best_35 : decode cX8_best 35 = .ok (.iconst 0, 1) := by decide +kernel
theorem dX8_best_36 : decode cX8_best 36 = .ok (.invokevirtual 214, 3) := by decide +kernel
theorem dX8_best_39 : decode cX8_best 39 = .ok (.istore 4, 2) := by decide +kernel
theorem dX8_best_41 : decode cX8_best 41 = .ok (.iconst 1, 1) := by decide +kernel
theorem dX8_best_42 : decode cX8_best 42 = .ok (.istore 5, 2) := by decide +kernel
theorem dX8_best_44 : decode cX8_best 44 = .ok (.iload 5, 2) := by decide +kernel
theorem dX8_best_46 : decode cX8_best 46 = .ok (.sipush 1024, 3) := by decide +kernel
theorem dX8_best_49 : decode cX8_best 49 = .ok (.if_icmp .ge 157, 3) := by decide +kernel
theorem dX8_best_52 : decode cX8_best 52 = .ok (.iload 5, 2) := by decide +kernel
theorem dX8_best_54 : decode cX8_best 54 = .ok (.invokestatic 217, 3) := by decide +kernel
theorem dX8_best_57 : decode cX8_best 57 = .ok (.istore 6, 2) := by decide +kernel
theorem dX8_best_59 : decode cX8_best 59 = .ok (.iload 6, 2) := by decide +kernel
theorem dX8_best_61 : decode cX8_best 61 = .ok (.iload_n 1, 1) := by decide +kernel
theorem dX8_best_62 : decode cX8_best 62 = .ok (.if_icmp .gt 7, 3) := by decide +kernel
theorem dX8_best_65 : decode cX8_best 65 = .ok (.iconst 1, 1) := by decide +kernel
theorem dX8_best_66 : decode cX8_best 66 = .ok (.goto 4, 3) := by decide +kernel
theorem dX8_best_69 : decode cX8_best 69 = .ok (.iconst 0, 1) := by decide +kernel
theorem dX8_best_70 : decode cX8_best 70 = .ok (.istore 7, 2) := by decide +kernel
theorem dX8_best_72 : decode cX8_best 72 = .ok (.iconst 0, 1) := by decide +kernel
theorem dX8_best_73 : decode cX8_best 73 = .ok (.istore 8, 2) := by decide +kernel
theorem dX8_best_75 : decode cX8_best 75 = .ok (.iload 8, 2) := by decide +kernel
theorem dX8_best_77 : decode cX8_best 77 = .ok (.bipush 10, 2) := by decide +kernel
theorem dX8_best_79 : decode cX8_best 79 = .ok (.if_icmp .ge 42, 3) := by decide +kernel
theorem dX8_best_82 : decode cX8_best 82 = .ok (.iload 7, 2) := by decide +kernel
theorem dX8_best_84 : decode cX8_best 84 = .ok (.ifCond .eq 28, 3) := by decide +kernel
theorem dX8_best_87 : decode cX8_best 87 = .ok (.iload 5, 2) := by decide +kernel
theorem dX8_best_89 : decode cX8_best 89 = .ok (.iload 8, 2) := by decide +kernel
theorem dX8_best_91 : decode cX8_best 91 = .ok (.ishr, 1) := by decide +kernel
theorem dX8_best_92 : decode cX8_best 92 = .ok (.iconst 1, 1) := by decide +kernel
theorem dX8_best_93 : decode cX8_best 93 = .ok (.iand, 1) := by decide +kernel
theorem dX8_best_94 : decode cX8_best 94 = .ok (.ifCond .eq 14, 3) := by decide +kernel
theorem dX8_best_97 : decode cX8_best 97 = .ok (.aload_n 0, 1) := by decide +kernel
theorem dX8_best_98 : decode cX8_best 98 = .ok (.getfield 93, 3) := by decide +kernel
theorem dX8_best_101 : decode cX8_best 101 = .ok (.iload 8, 2) := by decide +kernel
theorem dX8_best_103 : decode cX8_best 103 = .ok (.iaload, 1) := by decide +kernel
theorem dX8_best_104 : decode cX8_best 104 = .ok (.iconst (-1), 1) := by decide +kernel
theorem dX8_best_105 : decode cX8_best 105 = .ok (.if_icmp .eq 7, 3) := by decide +kernel
theorem dX8_best_108 : decode cX8_best 108 = .ok (.iconst 1, 1) := by decide +kernel
theorem dX8_best_109 : decode cX8_best 109 = .ok (.goto 4, 3) := by decide +kernel
theorem dX8_best_112 : decode cX8_best 112 = .ok (.iconst 0, 1) := by decide +kernel
theorem dX8_best_113 : decode cX8_best 113 = .ok (.istore 7, 2) := by decide +kernel
theorem dX8_best_115 : decode cX8_best 115 = .ok (.iinc 8 1, 3) := by decide +kernel
theorem dX8_best_118 : decode cX8_best 118 = .ok (.goto (-43), 3) := by decide +kernel
theorem dX8_best_121 : decode cX8_best 121 = .ok (.iload 7, 2) := by decide +kernel
theorem dX8_best_123 : decode cX8_best 123 = .ok (.ifCond .ne 6, 3) := by decide +kernel
theorem dX8_best_126 : decode cX8_best 126 = .ok (.goto 74, 3) := by decide +kernel
theorem dX8_best_129 : decode cX8_best 129 = .ok (.aload_n 0, 1) := by decide +kernel
theorem dX8_best_130 : decode cX8_best 130 = .ok (.iload 5, 2) := by decide +kernel
theorem dX8_best_132 : decode cX8_best 132 = .ok (.invokevirtual 214, 3) := by decide +kernel
theorem dX8_best_135 : decode cX8_best 135 = .ok (.istore 8, 2) := by decide +kernel
theorem dX8_best_137 : decode cX8_best 137 = .ok (.iload 8, 2) := by decide +kernel
theorem dX8_best_139 : decode cX8_best 139 = .ok (.iload 4, 2) := by decide +kernel
theorem dX8_best_141 : decode cX8_best 141 = .ok (.if_icmp .lt 37, 3) := by decide +kernel
theorem dX8_best_144 : decode cX8_best 144 = .ok (.iload 8, 2) := by decide +kernel
theorem dX8_best_146 : decode cX8_best 146 = .ok (.iload 4, 2) := by decide +kernel
theorem dX8_best_148 : decode cX8_best 148 = .ok (.if_icmp .ne 34, 3) := by decide +kernel
theorem dX8_best_151 : decode cX8_best 151 = .ok (.iload 6, 2) := by decide +kernel
theorem dX8_best_153 : decode cX8_best 153 = .ok (.iload_n 3, 1) := by decide +kernel
theorem dX8_best_154 : decode cX8_best 154 = .ok (.invokestatic 217, 3) := by decide +kernel
theorem dX8_best_157 : decode cX8_best 157 = .ok (.if_icmp .lt 21, 3) := by decide +kernel
theorem dX8_best_160 : decode cX8_best 160 = .ok (.iload 6, 2) := by decide +kernel
theorem dX8_best_162 : decode cX8_best 162 = .ok (.iload_n 3, 1) := by decide +kernel
theorem dX8_best_163 : decode cX8_best 163 = .ok (.invokestatic 217, 3) := by decide +kernel
theorem dX8_best_166 : decode cX8_best 166 = .ok (.if_icmp .ne 16, 3) := by decide +kernel
theorem dX8_best_169 : decode cX8_best 169 = .ok (.iload 5, 2) := by decide +kernel
theorem dX8_best_171 : decode cX8_best 171 = .ok (.iload_n 3, 1) := by decide +kernel
theorem dX8_best_172 : decode cX8_best 172 = .ok (.invokestatic 220, 3) := by decide +kernel
theorem dX8_best_175 : decode cX8_best 175 = .ok (.ifCond .eq 7, 3) := by decide +kernel
theorem dX8_best_178 : decode cX8_best 178 = .ok (.iconst 1, 1) := by decide +kernel
theorem dX8_best_179 : decode cX8_best 179 = .ok (.goto 4, 3) := by decide +kernel
theorem dX8_best_182 : decode cX8_best 182 = .ok (.iconst 0, 1) := by decide +kernel
theorem dX8_best_183 : decode cX8_best 183 = .ok (.istore 9, 2) := by decide +kernel
theorem dX8_best_185 : decode cX8_best 185 = .ok (.iload 9, 2) := by decide +kernel
theorem dX8_best_187 : decode cX8_best 187 = .ok (.ifCond .ne 6, 3) := by decide +kernel
theorem dX8_best_190 : decode cX8_best 190 = .ok (.goto 10, 3) := by decide +kernel
theorem dX8_best_193 : decode cX8_best 193 = .ok (.iload 5, 2) := by decide +kernel
theorem dX8_best_195 : decode cX8_best 195 = .ok (.istore_n 3, 1) := by decide +kernel
theorem dX8_best_196 : decode cX8_best 196 = .ok (.iload 8, 2) := by decide +kernel
theorem dX8_best_198 : decode cX8_best 198 = .ok (.istore 4, 2) := by decide +kernel
theorem dX8_best_200 : decode cX8_best 200 = .ok (.iinc 5 1, 3) := by decide +kernel
theorem dX8_best_203 : decode cX8_best 203 = .ok (.goto (-159), 3) := by decide +kernel
theorem dX8_best_206 : decode cX8_best 206 = .ok (.iload_n 2, 1) := by decide +kernel
theorem dX8_best_207 : decode cX8_best 207 = .ok (.ifCond .ne 8, 3) := by decide +kernel
theorem dX8_best_210 : decode cX8_best 210 = .ok (.iload 4, 2) := by decide +kernel
theorem dX8_best_212 : decode cX8_best 212 = .ok (.goto 16, 3) := by decide +kernel
theorem dX8_best_215 : decode cX8_best 215 = .ok (.iload_n 2, 1) := by decide +kernel
theorem dX8_best_216 : decode cX8_best 216 = .ok (.iconst 1, 1) := by decide +kernel
theorem dX8_best_217 : decode cX8_best 217 = .ok (.if_icmp .ne 10, 3) := by decide +kernel
theorem dX8_best_220 : decode cX8_best 220 = .ok (.iload_n 3, 1) := by decide +kernel
theorem dX8_best_221 : decode cX8_best 221 = .ok (.invokestatic 217, 3) := by decide +kernel
theorem dX8_best_224 : decode cX8_best 224 = .ok (.goto 4, 3) := by decide +kernel
theorem dX8_best_227 : decode cX8_best 227 = .ok (.iload_n 3, 1) := by decide +kernel
theorem dX8_best_228 : decode cX8_best 228 = .ok (.ireturn, 1) := by decide +kernel
theorem dJ6_bitCount_0f7a4_0 : decode cJ6_bitCount_0f7a4 0 = .ok (.iload_n 0, 1) := by decide +kernel
theorem dJ6_bitCount_0f7a4_1 : decode cJ6_bitCount_0f7a4 1 = .ok (.iload_n 0, 1) := by decide +kernel
theorem dJ6_bitCount_0f7a4_2 : decode cJ6_bitCount_0f7a4 2 = .ok (.iconst 1, 1) := by decide +kernel
theorem dJ6_bitCount_0f7a4_3 : decode cJ6_bitCount_0f7a4 3 = .ok (.iushr, 1) := by decide +kernel
theorem dJ6_bitCount_0f7a4_4 : decode cJ6_bitCount_0f7a4 4 = .ok (.ldc_w 265, 3) := by decide +kernel
theorem dJ6_bitCount_0f7a4_7 : decode cJ6_bitCount_0f7a4 7 = .ok (.iand, 1) := by decide +kernel
theorem dJ6_bitCount_0f7a4_8 : decode cJ6_bitCount_0f7a4 8 = .ok (.isub, 1) := by decide +kernel
theorem dJ6_bitCount_0f7a4_9 : decode cJ6_bitCount_0f7a4 9 = .ok (.istore_n 0, 1) := by decide +kernel
theorem dJ6_bitCount_0f7a4_10 : decode cJ6_bitCount_0f7a4 10 = .ok (.iload_n 0, 1) := by decide +kernel
theorem dJ6_bitCount_0f7a4_11 : decode cJ6_bitCount_0f7a4 11 = .ok (.ldc_w 266, 3) := by decide +kernel
theorem dJ6_bitCount_0f7a4_14 : decode cJ6_bitCount_0f7a4 14 = .ok (.iand, 1) := by decide +kernel
theorem dJ6_bitCount_0f7a4_15 : decode cJ6_bitCount_0f7a4 15 = .ok (.iload_n 0, 1) := by decide +kernel
theorem dJ6_bitCount_0f7a4_16 : decode cJ6_bitCount_0f7a4 16 = .ok (.iconst 2, 1) := by decide +kernel
theorem dJ6_bitCount_0f7a4_17 : decode cJ6_bitCount_0f7a4 17 = .ok (.iushr, 1) := by decide +kernel
theorem dJ6_bitCount_0f7a4_18 : decode cJ6_bitCount_0f7a4 18 = .ok (.ldc_w 266, 3) := by decide +kernel
theorem dJ6_bitCount_0f7a4_21 : decode cJ6_bitCount_0f7a4 21 = .ok (.iand, 1) := by decide +kernel
theorem dJ6_bitCount_0f7a4_22 : decode cJ6_bitCount_0f7a4 22 = .ok (.iadd, 1) := by decide +kernel
theorem dJ6_bitCount_0f7a4_23 : decode cJ6_bitCount_0f7a4 23 = .ok (.istore_n 0, 1) := by decide +kernel
theorem dJ6_bitCount_0f7a4_24 : decode cJ6_bitCount_0f7a4 24 = .ok (.iload_n 0, 1) := by decide +kernel
theorem dJ6_bitCount_0f7a4_25 : decode cJ6_bitCount_0f7a4 25 = .ok (.iload_n 0, 1) := by decide +kernel
theorem dJ6_bitCount_0f7a4_26 : decode cJ6_bitCount_0f7a4 26 = .ok (.iconst 4, 1) := by decide +kernel
theorem dJ6_bitCount_0f7a4_27 : decode cJ6_bitCount_0f7a4 27 = .ok (.iushr, 1) := by decide +kernel
theorem dJ6_bitCount_0f7a4_28 : decode cJ6_bitCount_0f7a4 28 = .ok (.iadd, 1) := by decide +kernel
theorem dJ6_bitCount_0f7a4_29 : decode cJ6_bitCount_0f7a4 29 = .ok (.ldc_w 267, 3) := by decide +kernel
theorem dJ6_bitCount_0f7a4_32 : decode cJ6_bitCount_0f7a4 32 = .ok (.iand, 1) := by decide +kernel
theorem dJ6_bitCount_0f7a4_33 : decode cJ6_bitCount_0f7a4 33 = .ok (.istore_n 0, 1) := by decide +kernel
theorem dJ6_bitCount_0f7a4_34 : decode cJ6_bitCount_0f7a4 34 = .ok (.iload_n 0, 1) := by decide +kernel
theorem dJ6_bitCount_0f7a4_35 : decode cJ6_bitCount_0f7a4 35 = .ok (.iload_n 0, 1) := by decide +kernel
theorem dJ6_bitCount_0f7a4_36 : decode cJ6_bitCount_0f7a4 36 = .ok (.bipush 8, 2) := by decide +kernel
theorem dJ6_bitCount_0f7a4_38 : decode cJ6_bitCount_0f7a4 38 = .ok (.iushr, 1) := by decide +kernel
theorem dJ6_bitCount_0f7a4_39 : decode cJ6_bitCount_0f7a4 39 = .ok (.iadd, 1) := by decide +kernel
theorem dJ6_bitCount_0f7a4_40 : decode cJ6_bitCount_0f7a4 40 = .ok (.istore_n 0, 1) := by decide +kernel
theorem dJ6_bitCount_0f7a4_41 : decode cJ6_bitCount_0f7a4 41 = .ok (.iload_n 0, 1) := by decide +kernel
theorem dJ6_bitCount_0f7a4_42 : decode cJ6_bitCount_0f7a4 42 = .ok (.iload_n 0, 1) := by decide +kernel
theorem dJ6_bitCount_0f7a4_43 : decode cJ6_bitCount_0f7a4 43 = .ok (.bipush 16, 2) := by decide +kernel
theorem dJ6_bitCount_0f7a4_45 : decode cJ6_bitCount_0f7a4 45 = .ok (.iushr, 1) := by decide +kernel
theorem dJ6_bitCount_0f7a4_46 : decode cJ6_bitCount_0f7a4 46 = .ok (.iadd, 1) := by decide +kernel
theorem dJ6_bitCount_0f7a4_47 : decode cJ6_bitCount_0f7a4 47 = .ok (.istore_n 0, 1) := by decide +kernel
theorem dJ6_bitCount_0f7a4_48 : decode cJ6_bitCount_0f7a4 48 = .ok (.iload_n 0, 1) := by decide +kernel
theorem dJ6_bitCount_0f7a4_49 : decode cJ6_bitCount_0f7a4 49 = .ok (.bipush 63, 2) := by decide +kernel
theorem dJ6_bitCount_0f7a4_51 : decode cJ6_bitCount_0f7a4 51 = .ok (.iand, 1) := by decide +kernel
theorem dJ6_bitCount_0f7a4_52 : decode cJ6_bitCount_0f7a4 52 = .ok (.ireturn, 1) := by decide +kernel
theorem dJ9_max_7cf53_0 : decode cJ9_max_7cf53 0 = .ok (.iload_n 0, 1) := by decide +kernel
theorem dJ9_max_7cf53_1 : decode cJ9_max_7cf53 1 = .ok (.iload_n 1, 1) := by decide +kernel
theorem dJ9_max_7cf53_2 : decode cJ9_max_7cf53 2 = .ok (.if_icmp .lt 7, 3) := by decide +kernel
theorem dJ9_max_7cf53_5 : decode cJ9_max_7cf53 5 = .ok (.iload_n 0, 1) := by decide +kernel
theorem dJ9_max_7cf53_6 : decode cJ9_max_7cf53 6 = .ok (.goto 4, 3) := by decide +kernel
theorem dJ9_max_7cf53_9 : decode cJ9_max_7cf53 9 = .ok (.iload_n 1, 1) := by decide +kernel
theorem dJ9_max_7cf53_10 : decode cJ9_max_7cf53 10 = .ok (.ireturn, 1) := by decide +kernel
theorem dJ9_min_7cf53_0 : decode cJ9_min_7cf53 0 = .ok (.iload_n 0, 1) := by decide +kernel
theorem dJ9_min_7cf53_1 : decode cJ9_min_7cf53 1 = .ok (.iload_n 1, 1) := by decide +kernel
theorem dJ9_min_7cf53_2 : decode cJ9_min_7cf53 2 = .ok (.if_icmp .gt 7, 3) := by decide +kernel
theorem dJ9_min_7cf53_5 : decode cJ9_min_7cf53 5 = .ok (.iload_n 0, 1) := by decide +kernel
theorem dJ9_min_7cf53_6 : decode cJ9_min_7cf53 6 = .ok (.goto 4, 3) := by decide +kernel
theorem dJ9_min_7cf53_9 : decode cJ9_min_7cf53 9 = .ok (.iload_n 1, 1) := by decide +kernel
theorem dJ9_min_7cf53_10 : decode cJ9_min_7cf53 10 = .ok (.ireturn, 1) := by decide +kernel
theorem dL_law_0 : decode cL_law 0 = .ok (.new 7, 3) := by decide +kernel
theorem dL_law_3 : decode cL_law 3 = .ok (.dup, 1) := by decide +kernel
theorem dL_law_4 : decode cL_law 4 = .ok (.invokespecial 9, 3) := by decide +kernel
theorem dL_law_7 : decode cL_law 7 = .ok (.astore_n 1, 1) := by decide +kernel
theorem dL_law_8 : decode cL_law 8 = .ok (.new 10, 3) := by decide +kernel
theorem dL_law_11 : decode cL_law 11 = .ok (.dup, 1) := by decide +kernel
theorem dL_law_12 : decode cL_law 12 = .ok (.invokespecial 12, 3) := by decide +kernel
theorem dL_law_15 : decode cL_law 15 = .ok (.astore_n 2, 1) := by decide +kernel
theorem dL_law_16 : decode cL_law 16 = .ok (.iconst 0, 1) := by decide +kernel
theorem dL_law_17 : decode cL_law 17 = .ok (.istore_n 3, 1) := by decide +kernel
theorem dL_law_18 : decode cL_law 18 = .ok (.iload_n 3, 1) := by decide +kernel
theorem dL_law_19 : decode cL_law 19 = .ok (.aload_n 0, 1) := by decide +kernel
theorem dL_law_20 : decode cL_law 20 = .ok (.arraylength, 1) := by decide +kernel
theorem dL_law_21 : decode cL_law 21 = .ok (.bipush 6, 2) := by decide +kernel
theorem dL_law_23 : decode cL_law 23 = .ok (.isub, 1) := by decide +kernel
theorem dL_law_24 : decode cL_law 24 = .ok (.if_icmp .gt 729, 3) := by decide +kernel
theorem dL_law_27 : decode cL_law 27 = .ok (.aload_n 0, 1) := by decide +kernel
theorem dL_law_28 : decode cL_law 28 = .ok (.iload_n 3, 1) := by decide +kernel
theorem dL_law_29 : decode cL_law 29 = .ok (.iaload, 1) := by decide +kernel
theorem dL_law_30 : decode cL_law 30 = .ok (.bipush 31, 2) := by decide +kernel
theorem dL_law_32 : decode cL_law 32 = .ok (.iand, 1) := by decide +kernel
theorem dL_law_33 : decode cL_law 33 = .ok (.tableswitch 714 0 18 #[91, 154, 187, 220, 243, 276, 329, 372, 405, 448, 471, 504, 527, 540, 553, 576, 609, 668, 681], 91) := by decide +kernel
theorem dL_law_124 : decode cL_law 124 = .ok (.aload_n 1, 1) := by decide +kernel
theorem dL_law_125 : decode cL_law 125 = .ok (.aload_n 0, 1) := by decide +kernel
theorem dL_law_126 : decode cL_law 126 = .ok (.iload_n 3, 1) := by decide +kernel
theorem dL_law_127 : decode cL_law 127 = .ok (.iconst 1, 1) := by decide +kernel
theorem dL_law_128 : decode cL_law 128 = .ok (.iadd, 1) := by decide +kernel
theorem dL_law_129 : decode cL_law 129 = .ok (.iaload, 1) := by decide +kernel
theorem dL_law_130 : decode cL_law 130 = .ok (.aload_n 0, 1) := by decide +kernel
theorem dL_law_131 : decode cL_law 131 = .ok (.iload_n 3, 1) := by decide +kernel
theorem dL_law_132 : decode cL_law 132 = .ok (.iconst 2, 1) := by decide +kernel
theorem dL_law_133 : decode cL_law 133 = .ok (.iadd, 1) := by decide +kernel
theorem dL_law_134 : decode cL_law 134 = .ok (.iaload, 1) := by decide +kernel
theorem dL_law_135 : decode cL_law 135 = .ok (.aload_n 0, 1) := by decide +kernel
theorem dL_law_136 : decode cL_law 136 = .ok (.iload_n 3, 1) := by decide +kernel
theorem dL_law_137 : decode cL_law 137 = .ok (.iconst 3, 1) := by decide +kernel
theorem dL_law_138 : decode cL_law 138 = .ok (.iadd, 1) := by decide +kernel
theorem dL_law_139 : decode cL_law 139 = .ok (.iaload, 1) := by decide +kernel
theorem dL_law_140 : decode cL_law 140 = .ok (.aload_n 0, 1) := by decide +kernel
theorem dL_law_141 : decode cL_law 141 = .ok (.iload_n 3, 1) := by decide +kernel
theorem dL_law_142 : decode cL_law 142 = .ok (.iconst 4, 1) := by decide +kernel
theorem dL_law_143 : decode cL_law 143 = .ok (.iadd, 1) := by decide +kernel
theorem dL_law_144 : decode cL_law 144 = .ok (.iaload, 1) := by decide +kernel
theorem dL_law_145 : decode cL_law 145 = .ok (.aload_n 0, 1) := by decide +kernel
theorem dL_law_146 : decode cL_law 146 = .ok (.iload_n 3, 1) := by decide +kernel
theorem dL_law_147 : decode cL_law 147 = .ok (.iconst 5, 1) := by decide +kernel
theorem dL_law_148 : decode cL_law 148 = .ok (.iadd, 1) := by decide +kernel
theorem dL_law_149 : decode cL_law 149 = .ok (.iaload, 1) := by decide +kernel
theorem dL_law_150 : decode cL_law 150 = .ok (.invokevirtual 13, 3) := by decide +kernel
theorem dL_law_153 : decode cL_law 153 = .ok (.aload_n 2, 1) := by decide +kernel
theorem dL_law_154 : decode cL_law 154 = .ok (.aload_n 0, 1) := by decide +kernel
theorem dL_law_155 : decode cL_law 155 = .ok (.iload_n 3, 1) := by decide +kernel
theorem dL_law_156 : decode cL_law 156 = .ok (.iconst 1, 1) := by decide +kernel
theorem dL_law_157 : decode cL_law 157 = .ok (.iadd, 1) := by decide +kernel
theorem dL_law_158 : decode cL_law 158 = .ok (.iaload, 1) := by decide +kernel
theorem dL_law_159 : decode cL_law 159 = .ok (.aload_n 0, 1) := by decide +kernel
theorem dL_law_160 : decode cL_law 160 = .ok (.iload_n 3, 1) := by decide +kernel
theorem dL_law_161 : decode cL_law 161 = .ok (.iconst 2, 1) := by decide +kernel
theorem dL_law_162 : decode cL_law 162 = .ok (.iadd, 1) := by decide +kernel
theorem dL_law_163 : decode cL_law 163 = .ok (.iaload, 1) := by decide +kernel
theorem dL_law_164 : decode cL_law 164 = .ok (.aload_n 0, 1) := by decide +kernel
theorem dL_law_165 : decode cL_law 165 = .ok (.iload_n 3, 1) := by decide +kernel
theorem dL_law_166 : decode cL_law 166 = .ok (.iconst 3, 1) := by decide +kernel
theorem dL_law_167 : decode cL_law 167 = .ok (.iadd, 1) := by decide +kernel
theorem dL_law_168 : decode cL_law 168 = .ok (.iaload, 1) := by decide +kernel
theorem dL_law_169 : decode cL_law 169 = .ok (.aload_n 0, 1) := by decide +kernel
theorem dL_law_170 : decode cL_law 170 = .ok (.iload_n 3, 1) := by decide +kernel
theorem dL_law_171 : decode cL_law 171 = .ok (.iconst 4, 1) := by decide +kernel
theorem dL_law_172 : decode cL_law 172 = .ok (.iadd, 1) := by decide +kernel
theorem dL_law_173 : decode cL_law 173 = .ok (.iaload, 1) := by decide +kernel
theorem dL_law_174 : decode cL_law 174 = .ok (.aload_n 0, 1) := by decide +kernel
theorem dL_law_175 : decode cL_law 175 = .ok (.iload_n 3, 1) := by decide +kernel
theorem dL_law_176 : decode cL_law 176 = .ok (.iconst 5, 1) := by decide +kernel
theorem dL_law_177 : decode cL_law 177 = .ok (.iadd, 1) := by decide +kernel
theorem dL_law_178 : decode cL_law 178 = .ok (.iaload, 1) := by decide +kernel
theorem dL_law_179 : decode cL_law 179 = .ok (.invokevirtual 17, 3) := by decide +kernel
theorem dL_law_182 : decode cL_law 182 = .ok (.if_icmp .eq 565, 3) := by decide +kernel
theorem dL_law_185 : decode cL_law 185 = .ok (.iconst 0, 1) := by decide +kernel
theorem dL_law_186 : decode cL_law 186 = .ok (.ireturn, 1) := by decide +kernel
theorem dL_law_187 : decode cL_law 187 = .ok (.aload_n 1, 1) := by decide +kernel
theorem dL_law_188 : decode cL_law 188 = .ok (.aload_n 0, 1) := by decide +kernel
theorem dL_law_189 : decode cL_law 189 = .ok (.iload_n 3, 1) := by decide +kernel
theorem dL_law_190 : decode cL_law 190 = .ok (.iconst 1, 1) := by decide +kernel
theorem dL_law_191 : decode cL_law 191 = .ok (.iadd, 1) := by decide +kernel
theorem dL_law_192 : decode cL_law 192 = .ok (.iaload, 1) := by decide +kernel
theorem dL_law_193 : decode cL_law 193 = .ok (.aload_n 0, 1) := by decide +kernel
theorem dL_law_194 : decode cL_law 194 = .ok (.iload_n 3, 1) := by decide +kernel
theorem dL_law_195 : decode cL_law 195 = .ok (.iconst 2, 1) := by decide +kernel
theorem dL_law_196 : decode cL_law 196 = .ok (.iadd, 1) := by decide +kernel
theorem dL_law_197 : decode cL_law 197 = .ok (.iaload, 1) := by decide +kernel
theorem dL_law_198 : decode cL_law 198 = .ok (.invokevirtual 18, 3) := by decide +kernel
theorem dL_law_201 : decode cL_law 201 = .ok (.aload_n 2, 1) := by decide +kernel
theorem dL_law_202 : decode cL_law 202 = .ok (.aload_n 0, 1) := by decide +kernel
theorem dL_law_203 : decode cL_law 203 = .ok (.iload_n 3, 1) := by decide +kernel
theorem dL_law_204 : decode cL_law 204 = .ok (.iconst 1, 1) := by decide +kernel
theorem dL_law_205 : decode cL_law 205 = .ok (.iadd, 1) := by decide +kernel
theorem dL_law_206 : decode cL_law 206 = .ok (.iaload, 1) := by decide +kernel
theorem dL_law_207 : decode cL_law 207 = .ok (.aload_n 0, 1) := by decide +kernel
theorem dL_law_208 : decode cL_law 208 = .ok (.iload_n 3, 1) := by decide +kernel
theorem dL_law_209 : decode cL_law 209 = .ok (.iconst 2, 1) := by decide +kernel
theorem dL_law_210 : decode cL_law 210 = .ok (.iadd, 1) := by decide +kernel
theorem dL_law_211 : decode cL_law 211 = .ok (.iaload, 1) := by decide +kernel
theorem dL_law_212 : decode cL_law 212 = .ok (.invokevirtual 22, 3) := by decide +kernel
theorem dL_law_215 : decode cL_law 215 = .ok (.if_icmp .eq 532, 3) := by decide +kernel
theorem dL_law_218 : decode cL_law 218 = .ok (.iconst 0, 1) := by decide +kernel
theorem dL_law_219 : decode cL_law 219 = .ok (.ireturn, 1) := by decide +kernel
theorem dL_law_220 : decode cL_law 220 = .ok (.aload_n 1, 1) := by decide +kernel
theorem dL_law_221 : decode cL_law 221 = .ok (.aload_n 0, 1) := by decide +kernel
theorem dL_law_222 : decode cL_law 222 = .ok (.iload_n 3, 1) := by decide +kernel
theorem dL_law_223 : decode cL_law 223 = .ok (.iconst 1, 1) := by decide +kernel
theorem dL_law_224 : decode cL_law 224 = .ok (.iadd, 1) := by decide +kernel
theorem dL_law_225 : decode cL_law 225 = .ok (.iaload, 1) := by decide +kernel
theorem dL_law_226 : decode cL_law 226 = .ok (.aload_n 0, 1) := by decide +kernel
theorem dL_law_227 : decode cL_law 227 = .ok (.iload_n 3, 1) := by decide +kernel
theorem dL_law_228 : decode cL_law 228 = .ok (.iconst 2, 1) := by decide +kernel
theorem dL_law_229 : decode cL_law 229 = .ok (.iadd, 1) := by decide +kernel
theorem dL_law_230 : decode cL_law 230 = .ok (.iaload, 1) := by decide +kernel
theorem dL_law_231 : decode cL_law 231 = .ok (.invokevirtual 23, 3) := by decide +kernel
theorem dL_law_234 : decode cL_law 234 = .ok (.aload_n 2, 1) := by decide +kernel
theorem dL_law_235 : decode cL_law 235 = .ok (.aload_n 0, 1) := by decide +kernel
theorem dL_law_236 : decode cL_law 236 = .ok (.iload_n 3, 1) := by decide +kernel
theorem dL_law_237 : decode cL_law 237 = .ok (.iconst 1, 1) := by decide +kernel
theorem dL_law_238 : decode cL_law 238 = .ok (.iadd, 1) := by decide +kernel
theorem dL_law_239 : decode cL_law 239 = .ok (.iaload, 1) := by decide +kernel
theorem dL_law_240 : decode cL_law 240 = .ok (.aload_n 0, 1) := by decide +kernel
theorem dL_law_241 : decode cL_law 241 = .ok (.iload_n 3, 1) := by decide +kernel
theorem dL_law_242 : decode cL_law 242 = .ok (.iconst 2, 1) := by decide +kernel
theorem dL_law_243 : decode cL_law 243 = .ok (.iadd, 1) := by decide +kernel
theorem dL_law_244 : decode cL_law 244 = .ok (.iaload, 1) := by decide +kernel
theorem dL_law_245 : decode cL_law 245 = .ok (.invokevirtual 26, 3) := by decide +kernel
theorem dL_law_248 : decode cL_law 248 = .ok (.if_icmp .eq 499, 3) := by decide +kernel
theorem dL_law_251 : decode cL_law 251 = .ok (.iconst 0, 1) := by decide +kernel
theorem dL_law_252 : decode cL_law 252 = .ok (.ireturn, 1) := by decide +kernel
theorem dL_law_253 : decode cL_law 253 = .ok (.aload_n 1, 1) := by decide +kernel
theorem dL_law_254 : decode cL_law 254 = .ok (.aload_n 0, 1) := by decide +kernel
theorem dL_law_255 : decode cL_law 255 = .ok (.iload_n 3, 1) := by decide +kernel
theorem dL_law_256 : decode cL_law 256 = .ok (.iconst 1, 1) := by decide +kernel
theorem dL_law_257 : decode cL_law 257 = .ok (.iadd, 1) := by decide +kernel
theorem dL_law_258 : decode cL_law 258 = .ok (.iaload, 1) := by decide +kernel
theorem dL_law_259 : decode cL_law 259 = .ok (.invokevirtual 27, 3) := by decide +kernel
theorem dL_law_262 : decode cL_law 262 = .ok (.aload_n 2, 1) := by decide +kernel
theorem dL_law_263 : decode cL_law 263 = .ok (.aload_n 0, 1) := by decide +kernel
theorem dL_law_264 : decode cL_law 264 = .ok (.iload_n 3, 1) := by decide +kernel
theorem dL_law_265 : decode cL_law 265 = .ok (.iconst 1, 1) := by decide +kernel
theorem dL_law_266 : decode cL_law 266 = .ok (.iadd, 1) := by decide +kernel
theorem dL_law_267 : decode cL_law 267 = .ok (.iaload, 1) := by decide +kernel
theorem dL_law_268 : decode cL_law 268 = .ok (.invokevirtual 31, 3) := by decide +kernel
theorem dL_law_271 : decode cL_law 271 = .ok (.if_icmp .eq 476, 3) := by decide +kernel
theorem dL_law_274 : decode cL_law 274 = .ok (.iconst 0, 1) := by decide +kernel
theorem dL_law_275 : decode cL_law 275 = .ok (.ireturn, 1) := by decide +kernel
theorem dL_law_276 : decode cL_law 276 = .ok (.aload_n 1, 1) := by decide +kernel
theorem dL_law_277 : decode cL_law 277 = .ok (.aload_n 0, 1) := by decide +kernel
theorem dL_law_278 : decode cL_law 278 = .ok (.iload_n 3, 1) := by decide +kernel
theorem dL_law_279 : decode cL_law 279 = .ok (.iconst 1, 1) := by decide +kernel
theorem dL_law_280 : decode cL_law 280 = .ok (.iadd, 1) := by decide +kernel
theorem dL_law_281 : decode cL_law 281 = .ok (.iaload, 1) := by decide +kernel
theorem dL_law_282 : decode cL_law 282 = .ok (.aload_n 0, 1) := by decide +kernel
theorem dL_law_283 : decode cL_law 283 = .ok (.iload_n 3, 1) := by decide +kernel
theorem dL_law_284 : decode cL_law 284 = .ok (.iconst 2, 1) := by decide +kernel
theorem dL_law_285 : decode cL_law 285 = .ok (.iadd, 1) := by decide +kernel
theorem dL_law_286 : decode cL_law 286 = .ok (.iaload, 1) := by decide +kernel
theorem dL_law_287 : decode cL_law 287 = .ok (.invokevirtual 32, 3) := by decide +kernel
theorem dL_law_290 : decode cL_law 290 = .ok (.aload_n 2, 1) := by decide +kernel
theorem dL_law_291 : decode cL_law 291 = .ok (.aload_n 0, 1) := by decide +kernel
theorem dL_law_292 : decode cL_law 292 = .ok (.iload_n 3, 1) := by decide +kernel
theorem dL_law_293 : decode cL_law 293 = .ok (.iconst 1, 1) := by decide +kernel
theorem dL_law_294 : decode cL_law 294 = .ok (.iadd, 1) := by decide +kernel
theorem dL_law_295 : decode cL_law 295 = .ok (.iaload, 1) := by decide +kernel
theorem dL_law_296 : decode cL_law 296 = .ok (.aload_n 0, 1) := by decide +kernel
theorem dL_law_297 : decode cL_law 297 = .ok (.iload_n 3, 1) := by decide +kernel
theorem dL_law_298 : decode cL_law 298 = .ok (.iconst 2, 1) := by decide +kernel
theorem dL_law_299 : decode cL_law 299 = .ok (.iadd, 1) := by decide +kernel
theorem dL_law_300 : decode cL_law 300 = .ok (.iaload, 1) := by decide +kernel
theorem dL_law_301 : decode cL_law 301 = .ok (.invokevirtual 35, 3) := by decide +kernel
theorem dL_law_304 : decode cL_law 304 = .ok (.if_icmp .eq 443, 3) := by decide +kernel
theorem dL_law_307 : decode cL_law 307 = .ok (.iconst 0, 1) := by decide +kernel
theorem dL_law_308 : decode cL_law 308 = .ok (.ireturn, 1) := by decide +kernel
theorem dL_law_309 : decode cL_law 309 = .ok (.aload_n 1, 1) := by decide +kernel
theorem dL_law_310 : decode cL_law 310 = .ok (.aload_n 0, 1) := by decide +kernel
theorem dL_law_311 : decode cL_law 311 = .ok (.iload_n 3, 1) := by decide +kernel
theorem dL_law_312 : decode cL_law 312 = .ok (.iconst 1, 1) := by decide +kernel
theorem dL_law_313 : decode cL_law 313 = .ok (.iadd, 1) := by decide +kernel
theorem dL_law_314 : decode cL_law 314 = .ok (.iaload, 1) := by decide +kernel
theorem dL_law_315 : decode cL_law 315 = .ok (.aload_n 0, 1) := by decide +kernel
theorem dL_law_316 : decode cL_law 316 = .ok (.iload_n 3, 1) := by decide +kernel
theorem dL_law_317 : decode cL_law 317 = .ok (.iconst 2, 1) := by decide +kernel
theorem dL_law_318 : decode cL_law 318 = .ok (.iadd, 1) := by decide +kernel
theorem dL_law_319 : decode cL_law 319 = .ok (.iaload, 1) := by decide +kernel
theorem dL_law_320 : decode cL_law 320 = .ok (.aload_n 0, 1) := by decide +kernel
theorem dL_law_321 : decode cL_law 321 = .ok (.iload_n 3, 1) := by decide +kernel
theorem dL_law_322 : decode cL_law 322 = .ok (.iconst 3, 1) := by decide +kernel
theorem dL_law_323 : decode cL_law 323 = .ok (.iadd, 1) := by decide +kernel
theorem dL_law_324 : decode cL_law 324 = .ok (.iaload, 1) := by decide +kernel
theorem dL_law_325 : decode cL_law 325 = .ok (.aload_n 0, 1) := by decide +kernel
theorem dL_law_326 : decode cL_law 326 = .ok (.iload_n 3, 1) := by decide +kernel
theorem dL_law_327 : decode cL_law 327 = .ok (.iconst 4, 1) := by decide +kernel
theorem dL_law_328 : decode cL_law 328 = .ok (.iadd, 1) := by decide +kernel
theorem dL_law_329 : decode cL_law 329 = .ok (.iaload, 1) := by decide +kernel
theorem dL_law_330 : decode cL_law 330 = .ok (.invokevirtual 36, 3) := by decide +kernel
theorem dL_law_333 : decode cL_law 333 = .ok (.aload_n 2, 1) := by decide +kernel
theorem dL_law_334 : decode cL_law 334 = .ok (.aload_n 0, 1) := by decide +kernel
theorem dL_law_335 : decode cL_law 335 = .ok (.iload_n 3, 1) := by decide +kernel
theorem dL_law_336 : decode cL_law 336 = .ok (.iconst 1, 1) := by decide +kernel
theorem dL_law_337 : decode cL_law 337 = .ok (.iadd, 1) := by decide +kernel
theorem dL_law_338 : decode cL_law 338 = .ok (.iaload, 1) := by decide +kernel
theorem dL_law_339 : decode cL_law 339 = .ok (.aload_n 0, 1) := by decide +kernel
theorem dL_law_340 : decode cL_law 340 = .ok (.iload_n 3, 1) := by decide +kernel
theorem dL_law_341 : decode cL_law 341 = .ok (.iconst 2, 1) := by decide +kernel
theorem dL_law_342 : decode cL_law 342 = .ok (.iadd, 1) := by decide +kernel
theorem dL_law_343 : decode cL_law 343 = .ok (.iaload, 1) := by decide +kernel
theorem dL_law_344 : decode cL_law 344 = .ok (.aload_n 0, 1) := by decide +kernel
theorem dL_law_345 : decode cL_law 345 = .ok (.iload_n 3, 1) := by decide +kernel
theorem dL_law_346 : decode cL_law 346 = .ok (.iconst 3, 1) := by decide +kernel
theorem dL_law_347 : decode cL_law 347 = .ok (.iadd, 1) := by decide +kernel
theorem dL_law_348 : decode cL_law 348 = .ok (.iaload, 1) := by decide +kernel
theorem dL_law_349 : decode cL_law 349 = .ok (.aload_n 0, 1) := by decide +kernel
theorem dL_law_350 : decode cL_law 350 = .ok (.iload_n 3, 1) := by decide +kernel
theorem dL_law_351 : decode cL_law 351 = .ok (.iconst 4, 1) := by decide +kernel
theorem dL_law_352 : decode cL_law 352 = .ok (.iadd, 1) := by decide +kernel
theorem dL_law_353 : decode cL_law 353 = .ok (.iaload, 1) := by decide +kernel
theorem dL_law_354 : decode cL_law 354 = .ok (.invokevirtual 40, 3) := by decide +kernel
theorem dL_law_357 : decode cL_law 357 = .ok (.if_icmp .eq 390, 3) := by decide +kernel
theorem dL_law_360 : decode cL_law 360 = .ok (.iconst 0, 1) := by decide +kernel
theorem dL_law_361 : decode cL_law 361 = .ok (.ireturn, 1) := by decide +kernel
theorem dL_law_362 : decode cL_law 362 = .ok (.aload_n 1, 1) := by decide +kernel
theorem dL_law_363 : decode cL_law 363 = .ok (.aload_n 0, 1) := by decide +kernel
theorem dL_law_364 : decode cL_law 364 = .ok (.iload_n 3, 1) := by decide +kernel
theorem dL_law_365 : decode cL_law 365 = .ok (.iconst 1, 1) := by decide +kernel
theorem dL_law_366 : decode cL_law 366 = .ok (.iadd, 1) := by decide +kernel
theorem dL_law_367 : decode cL_law 367 = .ok (.iaload, 1) := by decide +kernel
theorem dL_law_368 : decode cL_law 368 = .ok (.aload_n 0, 1) := by decide +kernel
theorem dL_law_369 : decode cL_law 369 = .ok (.iload_n 3, 1) := by decide +kernel
theorem dL_law_370 : decode cL_law 370 = .ok (.iconst 2, 1) := by decide +kernel
theorem dL_law_371 : decode cL_law 371 = .ok (.iadd, 1) := by decide +kernel
theorem dL_law_372 : decode cL_law 372 = .ok (.iaload, 1) := by decide +kernel
theorem dL_law_373 : decode cL_law 373 = .ok (.aload_n 0, 1) := by decide +kernel
theorem dL_law_374 : decode cL_law 374 = .ok (.iload_n 3, 1) := by decide +kernel
theorem dL_law_375 : decode cL_law 375 = .ok (.iconst 3, 1) := by decide +kernel
theorem dL_law_376 : decode cL_law 376 = .ok (.iadd, 1) := by decide +kernel
theorem dL_law_377 : decode cL_law 377 = .ok (.iaload, 1) := by decide +kernel
theorem dL_law_378 : decode cL_law 378 = .ok (.invokevirtual 41, 3) := by decide +kernel
theorem dL_law_381 : decode cL_law 381 = .ok (.aload_n 2, 1) := by decide +kernel
theorem dL_law_382 : decode cL_law 382 = .ok (.aload_n 0, 1) := by decide +kernel
theorem dL_law_383 : decode cL_law 383 = .ok (.iload_n 3, 1) := by decide +kernel
theorem dL_law_384 : decode cL_law 384 = .ok (.iconst 1, 1) := by decide +kernel
theorem dL_law_385 : decode cL_law 385 = .ok (.iadd, 1) := by decide +kernel
theorem dL_law_386 : decode cL_law 386 = .ok (.iaload, 1) := by decide +kernel
theorem dL_law_387 : decode cL_law 387 = .ok (.aload_n 0, 1) := by decide +kernel
theorem dL_law_388 : decode cL_law 388 = .ok (.iload_n 3, 1) := by decide +kernel
theorem dL_law_389 : decode cL_law 389 = .ok (.iconst 2, 1) := by decide +kernel
theorem dL_law_390 : decode cL_law 390 = .ok (.iadd, 1) := by decide +kernel
theorem dL_law_391 : decode cL_law 391 = .ok (.iaload, 1) := by decide +kernel
theorem dL_law_392 : decode cL_law 392 = .ok (.aload_n 0, 1) := by decide +kernel
theorem dL_law_393 : decode cL_law 393 = .ok (.iload_n 3, 1) := by decide +kernel
theorem dL_law_394 : decode cL_law 394 = .ok (.iconst 3, 1) := by decide +kernel
theorem dL_law_395 : decode cL_law 395 = .ok (.iadd, 1) := by decide +kernel
theorem dL_law_396 : decode cL_law 396 = .ok (.iaload, 1) := by decide +kernel
theorem dL_law_397 : decode cL_law 397 = .ok (.invokevirtual 45, 3) := by decide +kernel
theorem dL_law_400 : decode cL_law 400 = .ok (.if_icmp .eq 347, 3) := by decide +kernel
theorem dL_law_403 : decode cL_law 403 = .ok (.iconst 0, 1) := by decide +kernel
theorem dL_law_404 : decode cL_law 404 = .ok (.ireturn, 1) := by decide +kernel
theorem dL_law_405 : decode cL_law 405 = .ok (.aload_n 1, 1) := by decide +kernel
theorem dL_law_406 : decode cL_law 406 = .ok (.aload_n 0, 1) := by decide +kernel
theorem dL_law_407 : decode cL_law 407 = .ok (.iload_n 3, 1) := by decide +kernel
theorem dL_law_408 : decode cL_law 408 = .ok (.iconst 1, 1) := by decide +kernel
theorem dL_law_409 : decode cL_law 409 = .ok (.iadd, 1) := by decide +kernel
theorem dL_law_410 : decode cL_law 410 = .ok (.iaload, 1) := by decide +kernel
theorem dL_law_411 : decode cL_law 411 = .ok (.aload_n 0, 1) := by decide +kernel
theorem dL_law_412 : decode cL_law 412 = .ok (.iload_n 3, 1) := by decide +kernel
theorem dL_law_413 : decode cL_law 413 = .ok (.iconst 2, 1) := by decide +kernel
theorem dL_law_414 : decode cL_law 414 = .ok (.iadd, 1) := by decide +kernel
theorem dL_law_415 : decode cL_law 415 = .ok (.iaload, 1) := by decide +kernel
theorem dL_law_416 : decode cL_law 416 = .ok (.invokevirtual 46, 3) := by decide +kernel
theorem dL_law_419 : decode cL_law 419 = .ok (.aload_n 2, 1) := by decide +kernel
theorem dL_law_420 : decode cL_law 420 = .ok (.aload_n 0, 1) := by decide +kernel
theorem dL_law_421 : decode cL_law 421 = .ok (.iload_n 3, 1) := by decide +kernel
theorem dL_law_422 : decode cL_law 422 = .ok (.iconst 1, 1) := by decide +kernel
theorem dL_law_423 : decode cL_law 423 = .ok (.iadd, 1) := by decide +kernel
theorem dL_law_424 : decode cL_law 424 = .ok (.iaload, 1) := by decide +kernel
theorem dL_law_425 : decode cL_law 425 = .ok (.aload_n 0, 1) := by decide +kernel
theorem dL_law_426 : decode cL_law 426 = .ok (.iload_n 3, 1) := by decide +kernel
theorem dL_law_427 : decode cL_law 427 = .ok (.iconst 2, 1) := by decide +kernel
theorem dL_law_428 : decode cL_law 428 = .ok (.iadd, 1) := by decide +kernel
theorem dL_law_429 : decode cL_law 429 = .ok (.iaload, 1) := by decide +kernel
theorem dL_law_430 : decode cL_law 430 = .ok (.invokevirtual 49, 3) := by decide +kernel
theorem dL_law_433 : decode cL_law 433 = .ok (.if_icmp .eq 314, 3) := by decide +kernel
theorem dL_law_436 : decode cL_law 436 = .ok (.iconst 0, 1) := by decide +kernel
theorem dL_law_437 : decode cL_law 437 = .ok (.ireturn, 1) := by decide +kernel
theorem dL_law_438 : decode cL_law 438 = .ok (.aload_n 1, 1) := by decide +kernel
theorem dL_law_439 : decode cL_law 439 = .ok (.aload_n 0, 1) := by decide +kernel
theorem dL_law_440 : decode cL_law 440 = .ok (.iload_n 3, 1) := by decide +kernel
theorem dL_law_441 : decode cL_law 441 = .ok (.iconst 1, 1) := by decide +kernel
theorem dL_law_442 : decode cL_law 442 = .ok (.iadd, 1) := by decide +kernel
theorem dL_law_443 : decode cL_law 443 = .ok (.iaload, 1) := by decide +kernel
theorem dL_law_444 : decode cL_law 444 = .ok (.aload_n 0, 1) := by decide +kernel
theorem dL_law_445 : decode cL_law 445 = .ok (.iload_n 3, 1) := by decide +kernel
theorem dL_law_446 : decode cL_law 446 = .ok (.iconst 2, 1) := by decide +kernel
theorem dL_law_447 : decode cL_law 447 = .ok (.iadd, 1) := by decide +kernel
theorem dL_law_448 : decode cL_law 448 = .ok (.iaload, 1) := by decide +kernel
theorem dL_law_449 : decode cL_law 449 = .ok (.aload_n 0, 1) := by decide +kernel
theorem dL_law_450 : decode cL_law 450 = .ok (.iload_n 3, 1) := by decide +kernel
theorem dL_law_451 : decode cL_law 451 = .ok (.iconst 3, 1) := by decide +kernel
theorem dL_law_452 : decode cL_law 452 = .ok (.iadd, 1) := by decide +kernel
theorem dL_law_453 : decode cL_law 453 = .ok (.iaload, 1) := by decide +kernel
theorem dL_law_454 : decode cL_law 454 = .ok (.invokevirtual 50, 3) := by decide +kernel
theorem dL_law_457 : decode cL_law 457 = .ok (.aload_n 2, 1) := by decide +kernel
theorem dL_law_458 : decode cL_law 458 = .ok (.aload_n 0, 1) := by decide +kernel
theorem dL_law_459 : decode cL_law 459 = .ok (.iload_n 3, 1) := by decide +kernel
theorem dL_law_460 : decode cL_law 460 = .ok (.iconst 1, 1) := by decide +kernel
theorem dL_law_461 : decode cL_law 461 = .ok (.iadd, 1) := by decide +kernel
theorem dL_law_462 : decode cL_law 462 = .ok (.iaload, 1) := by decide +kernel
theorem dL_law_463 : decode cL_law 463 = .ok (.aload_n 0, 1) := by decide +kernel
theorem dL_law_464 : decode cL_law 464 = .ok (.iload_n 3, 1) := by decide +kernel
theorem dL_law_465 : decode cL_law 465 = .ok (.iconst 2, 1) := by decide +kernel
theorem dL_law_466 : decode cL_law 466 = .ok (.iadd, 1) := by decide +kernel
theorem dL_law_467 : decode cL_law 467 = .ok (.iaload, 1) := by decide +kernel
theorem dL_law_468 : decode cL_law 468 = .ok (.aload_n 0, 1) := by decide +kernel
theorem dL_law_469 : decode cL_law 469 = .ok (.iload_n 3, 1) := by decide +kernel
theorem dL_law_470 : decode cL_law 470 = .ok (.iconst 3, 1) := by decide +kernel
theorem dL_law_471 : decode cL_law 471 = .ok (.iadd, 1) := by decide +kernel
theorem dL_law_472 : decode cL_law 472 = .ok (.iaload, 1) := by decide +kernel
theorem dL_law_473 : decode cL_law 473 = .ok (.invokevirtual 53, 3) := by decide +kernel
theorem dL_law_476 : decode cL_law 476 = .ok (.if_icmp .eq 271, 3) := by decide +kernel
theorem dL_law_479 : decode cL_law 479 = .ok (.iconst 0, 1) := by decide +kernel
theorem dL_law_480 : decode cL_law 480 = .ok (.ireturn, 1) := by decide +kernel
theorem dL_law_481 : decode cL_law 481 = .ok (.aload_n 1, 1) := by decide +kernel
theorem dL_law_482 : decode cL_law 482 = .ok (.aload_n 0, 1) := by decide +kernel
theorem dL_law_483 : decode cL_law 483 = .ok (.iload_n 3, 1) := by decide +kernel
theorem dL_law_484 : decode cL_law 484 = .ok (.iconst 1, 1) := by decide +kernel
theorem dL_law_485 : decode cL_law 485 = .ok (.iadd, 1) := by decide +kernel
theorem dL_law_486 : decode cL_law 486 = .ok (.iaload, 1) := by decide +kernel
theorem dL_law_487 : decode cL_law 487 = .ok (.invokevirtual 54, 3) := by decide +kernel
theorem dL_law_490 : decode cL_law 490 = .ok (.aload_n 2, 1) := by decide +kernel
theorem dL_law_491 : decode cL_law 491 = .ok (.aload_n 0, 1) := by decide +kernel
theorem dL_law_492 : decode cL_law 492 = .ok (.iload_n 3, 1) := by decide +kernel
theorem dL_law_493 : decode cL_law 493 = .ok (.iconst 1, 1) := by decide +kernel
theorem dL_law_494 : decode cL_law 494 = .ok (.iadd, 1) := by decide +kernel
theorem dL_law_495 : decode cL_law 495 = .ok (.iaload, 1) := by decide +kernel
theorem dL_law_496 : decode cL_law 496 = .ok (.invokevirtual 58, 3) := by decide +kernel
theorem dL_law_499 : decode cL_law 499 = .ok (.if_icmp .eq 248, 3) := by decide +kernel
theorem dL_law_502 : decode cL_law 502 = .ok (.iconst 0, 1) := by decide +kernel
theorem dL_law_503 : decode cL_law 503 = .ok (.ireturn, 1) := by decide +kernel
theorem dL_law_504 : decode cL_law 504 = .ok (.aload_n 1, 1) := by decide +kernel
theorem dL_law_505 : decode cL_law 505 = .ok (.aload_n 0, 1) := by decide +kernel
theorem dL_law_506 : decode cL_law 506 = .ok (.iload_n 3, 1) := by decide +kernel
theorem dL_law_507 : decode cL_law 507 = .ok (.iconst 1, 1) := by decide +kernel
theorem dL_law_508 : decode cL_law 508 = .ok (.iadd, 1) := by decide +kernel
theorem dL_law_509 : decode cL_law 509 = .ok (.iaload, 1) := by decide +kernel
theorem dL_law_510 : decode cL_law 510 = .ok (.aload_n 0, 1) := by decide +kernel
theorem dL_law_511 : decode cL_law 511 = .ok (.iload_n 3, 1) := by decide +kernel
theorem dL_law_512 : decode cL_law 512 = .ok (.iconst 2, 1) := by decide +kernel
theorem dL_law_513 : decode cL_law 513 = .ok (.iadd, 1) := by decide +kernel
theorem dL_law_514 : decode cL_law 514 = .ok (.iaload, 1) := by decide +kernel
theorem dL_law_515 : decode cL_law 515 = .ok (.invokevirtual 59, 3) := by decide +kernel
theorem dL_law_518 : decode cL_law 518 = .ok (.aload_n 2, 1) := by decide +kernel
theorem dL_law_519 : decode cL_law 519 = .ok (.aload_n 0, 1) := by decide +kernel
theorem dL_law_520 : decode cL_law 520 = .ok (.iload_n 3, 1) := by decide +kernel
theorem dL_law_521 : decode cL_law 521 = .ok (.iconst 1, 1) := by decide +kernel
theorem dL_law_522 : decode cL_law 522 = .ok (.iadd, 1) := by decide +kernel
theorem dL_law_523 : decode cL_law 523 = .ok (.iaload, 1) := by decide +kernel
theorem dL_law_524 : decode cL_law 524 = .ok (.aload_n 0, 1) := by decide +kernel
theorem dL_law_525 : decode cL_law 525 = .ok (.iload_n 3, 1) := by decide +kernel
theorem dL_law_526 : decode cL_law 526 = .ok (.iconst 2, 1) := by decide +kernel
theorem dL_law_527 : decode cL_law 527 = .ok (.iadd, 1) := by decide +kernel
theorem dL_law_528 : decode cL_law 528 = .ok (.iaload, 1) := by decide +kernel
theorem dL_law_529 : decode cL_law 529 = .ok (.invokevirtual 62, 3) := by decide +kernel
theorem dL_law_532 : decode cL_law 532 = .ok (.if_icmp .eq 215, 3) := by decide +kernel
theorem dL_law_535 : decode cL_law 535 = .ok (.iconst 0, 1) := by decide +kernel
theorem dL_law_536 : decode cL_law 536 = .ok (.ireturn, 1) := by decide +kernel
theorem dL_law_537 : decode cL_law 537 = .ok (.aload_n 1, 1) := by decide +kernel
theorem dL_law_538 : decode cL_law 538 = .ok (.aload_n 0, 1) := by decide +kernel
theorem dL_law_539 : decode cL_law 539 = .ok (.iload_n 3, 1) := by decide +kernel
theorem dL_law_540 : decode cL_law 540 = .ok (.iconst 1, 1) := by decide +kernel
theorem dL_law_541 : decode cL_law 541 = .ok (.iadd, 1) := by decide +kernel
theorem dL_law_542 : decode cL_law 542 = .ok (.iaload, 1) := by decide +kernel
theorem dL_law_543 : decode cL_law 543 = .ok (.invokevirtual 63, 3) := by decide +kernel
theorem dL_law_546 : decode cL_law 546 = .ok (.aload_n 2, 1) := by decide +kernel
theorem dL_law_547 : decode cL_law 547 = .ok (.aload_n 0, 1) := by decide +kernel
theorem dL_law_548 : decode cL_law 548 = .ok (.iload_n 3, 1) := by decide +kernel
theorem dL_law_549 : decode cL_law 549 = .ok (.iconst 1, 1) := by decide +kernel
theorem dL_law_550 : decode cL_law 550 = .ok (.iadd, 1) := by decide +kernel
theorem dL_law_551 : decode cL_law 551 = .ok (.iaload, 1) := by decide +kernel
theorem dL_law_552 : decode cL_law 552 = .ok (.invokevirtual 66, 3) := by decide +kernel
theorem dL_law_555 : decode cL_law 555 = .ok (.if_icmp .eq 192, 3) := by decide +kernel
theorem dL_law_558 : decode cL_law 558 = .ok (.iconst 0, 1) := by decide +kernel
theorem dL_law_559 : decode cL_law 559 = .ok (.ireturn, 1) := by decide +kernel
theorem dL_law_560 : decode cL_law 560 = .ok (.aload_n 1, 1) := by decide +kernel
theorem dL_law_561 : decode cL_law 561 = .ok (.invokevirtual 67, 3) := by decide +kernel
theorem dL_law_564 : decode cL_law 564 = .ok (.aload_n 2, 1) := by decide +kernel
theorem dL_law_565 : decode cL_law 565 = .ok (.invokevirtual 71, 3) := by decide +kernel
theorem dL_law_568 : decode cL_law 568 = .ok (.if_icmp .eq 179, 3) := by decide +kernel
theorem dL_law_571 : decode cL_law 571 = .ok (.iconst 0, 1) := by decide +kernel
theorem dL_law_572 : decode cL_law 572 = .ok (.ireturn, 1) := by decide +kernel
theorem dL_law_573 : decode cL_law 573 = .ok (.aload_n 1, 1) := by decide +kernel
theorem dL_law_574 : decode cL_law 574 = .ok (.invokevirtual 72, 3) := by decide +kernel
theorem dL_law_577 : decode cL_law 577 = .ok (.aload_n 2, 1) := by decide +kernel
theorem dL_law_578 : decode cL_law 578 = .ok (.invokevirtual 76, 3) := by decide +kernel
theorem dL_law_581 : decode cL_law 581 = .ok (.if_icmp .eq 166, 3) := by decide +kernel
theorem dL_law_584 : decode cL_law 584 = .ok (.iconst 0, 1) := by decide +kernel
theorem dL_law_585 : decode cL_law 585 = .ok (.ireturn, 1) := by decide +kernel
theorem dL_law_586 : decode cL_law 586 = .ok (.aload_n 1, 1) := by decide +kernel
theorem dL_law_587 : decode cL_law 587 = .ok (.aload_n 0, 1) := by decide +kernel
theorem dL_law_588 : decode cL_law 588 = .ok (.iload_n 3, 1) := by decide +kernel
theorem dL_law_589 : decode cL_law 589 = .ok (.iconst 1, 1) := by decide +kernel
theorem dL_law_590 : decode cL_law 590 = .ok (.iadd, 1) := by decide +kernel
theorem dL_law_591 : decode cL_law 591 = .ok (.iaload, 1) := by decide +kernel
theorem dL_law_592 : decode cL_law 592 = .ok (.invokevirtual 77, 3) := by decide +kernel
theorem dL_law_595 : decode cL_law 595 = .ok (.aload_n 2, 1) := by decide +kernel
theorem dL_law_596 : decode cL_law 596 = .ok (.aload_n 0, 1) := by decide +kernel
theorem dL_law_597 : decode cL_law 597 = .ok (.iload_n 3, 1) := by decide +kernel
theorem dL_law_598 : decode cL_law 598 = .ok (.iconst 1, 1) := by decide +kernel
theorem dL_law_599 : decode cL_law 599 = .ok (.iadd, 1) := by decide +kernel
theorem dL_law_600 : decode cL_law 600 = .ok (.iaload, 1) := by decide +kernel
theorem dL_law_601 : decode cL_law 601 = .ok (.invokevirtual 80, 3) := by decide +kernel
theorem dL_law_604 : decode cL_law 604 = .ok (.if_icmp .eq 143, 3) := by decide +kernel
theorem dL_law_607 : decode cL_law 607 = .ok (.iconst 0, 1) := by decide +kernel
theorem dL_law_608 : decode cL_law 608 = .ok (.ireturn, 1) := by decide +kernel
theorem dL_law_609 : decode cL_law 609 = .ok (.aload_n 1, 1) := by decide +kernel
theorem dL_law_610 : decode cL_law 610 = .ok (.aload_n 0, 1) := by decide +kernel
theorem dL_law_611 : decode cL_law 611 = .ok (.iload_n 3, 1) := by decide +kernel
theorem dL_law_612 : decode cL_law 612 = .ok (.iconst 1, 1) := by decide +kernel
theorem dL_law_613 : decode cL_law 613 = .ok (.iadd, 1) := by decide +kernel
theorem dL_law_614 : decode cL_law 614 = .ok (.iaload, 1) := by decide +kernel
theorem dL_law_615 : decode cL_law 615 = .ok (.aload_n 0, 1) := by decide +kernel
theorem dL_law_616 : decode cL_law 616 = .ok (.iload_n 3, 1) := by decide +kernel
theorem dL_law_617 : decode cL_law 617 = .ok (.iconst 2, 1) := by decide +kernel
theorem dL_law_618 : decode cL_law 618 = .ok (.iadd, 1) := by decide +kernel
theorem dL_law_619 : decode cL_law 619 = .ok (.iaload, 1) := by decide +kernel
theorem dL_law_620 : decode cL_law 620 = .ok (.invokevirtual 81, 3) := by decide +kernel
theorem dL_law_623 : decode cL_law 623 = .ok (.aload_n 2, 1) := by decide +kernel
theorem dL_law_624 : decode cL_law 624 = .ok (.aload_n 0, 1) := by decide +kernel
theorem dL_law_625 : decode cL_law 625 = .ok (.iload_n 3, 1) := by decide +kernel
theorem dL_law_626 : decode cL_law 626 = .ok (.iconst 1, 1) := by decide +kernel
theorem dL_law_627 : decode cL_law 627 = .ok (.iadd, 1) := by decide +kernel
theorem dL_law_628 : decode cL_law 628 = .ok (.iaload, 1) := by decide +kernel
theorem dL_law_629 : decode cL_law 629 = .ok (.aload_n 0, 1) := by decide +kernel
theorem dL_law_630 : decode cL_law 630 = .ok (.iload_n 3, 1) := by decide +kernel
theorem dL_law_631 : decode cL_law 631 = .ok (.iconst 2, 1) := by decide +kernel
theorem dL_law_632 : decode cL_law 632 = .ok (.iadd, 1) := by decide +kernel
theorem dL_law_633 : decode cL_law 633 = .ok (.iaload, 1) := by decide +kernel
theorem dL_law_634 : decode cL_law 634 = .ok (.invokevirtual 85, 3) := by decide +kernel
theorem dL_law_637 : decode cL_law 637 = .ok (.if_icmp .eq 110, 3) := by decide +kernel
theorem dL_law_640 : decode cL_law 640 = .ok (.iconst 0, 1) := by decide +kernel
theorem dL_law_641 : decode cL_law 641 = .ok (.ireturn, 1) := by decide +kernel
theorem dL_law_642 : decode cL_law 642 = .ok (.aload_n 1, 1) := by decide +kernel
theorem dL_law_643 : decode cL_law 643 = .ok (.aload_n 0, 1) := by decide +kernel
theorem dL_law_644 : decode cL_law 644 = .ok (.iload_n 3, 1) := by decide +kernel
theorem dL_law_645 : decode cL_law 645 = .ok (.iconst 1, 1) := by decide +kernel
theorem dL_law_646 : decode cL_law 646 = .ok (.iadd, 1) := by decide +kernel
theorem dL_law_647 : decode cL_law 647 = .ok (.iaload, 1) := by decide +kernel
theorem dL_law_648 : decode cL_law 648 = .ok (.aload_n 0, 1) := by decide +kernel
theorem dL_law_649 : decode cL_law 649 = .ok (.iload_n 3, 1) := by decide +kernel
theorem dL_law_650 : decode cL_law 650 = .ok (.iconst 2, 1) := by decide +kernel
theorem dL_law_651 : decode cL_law 651 = .ok (.iadd, 1) := by decide +kernel
theorem dL_law_652 : decode cL_law 652 = .ok (.iaload, 1) := by decide +kernel
theorem dL_law_653 : decode cL_law 653 = .ok (.aload_n 0, 1) := by decide +kernel
theorem dL_law_654 : decode cL_law 654 = .ok (.iload_n 3, 1) := by decide +kernel
theorem dL_law_655 : decode cL_law 655 = .ok (.iconst 3, 1) := by decide +kernel
theorem dL_law_656 : decode cL_law 656 = .ok (.iadd, 1) := by decide +kernel
theorem dL_law_657 : decode cL_law 657 = .ok (.iaload, 1) := by decide +kernel
theorem dL_law_658 : decode cL_law 658 = .ok (.ifCond .eq 7, 3) := by decide +kernel
theorem dL_law_661 : decode cL_law 661 = .ok (.iconst 1, 1) := by decide +kernel
theorem dL_law_662 : decode cL_law 662 = .ok (.goto 4, 3) := by decide +kernel
theorem dL_law_665 : decode cL_law 665 = .ok (.iconst 0, 1) := by decide +kernel
theorem dL_law_666 : decode cL_law 666 = .ok (.invokevirtual 86, 3) := by decide +kernel
theorem dL_law_669 : decode cL_law 669 = .ok (.aload_n 2, 1) := by decide +kernel
theorem dL_law_670 : decode cL_law 670 = .ok (.aload_n 0, 1) := by decide +kernel
theorem dL_law_671 : decode cL_law 671 = .ok (.iload_n 3, 1) := by decide +kernel
theorem dL_law_672 : decode cL_law 672 = .ok (.iconst 1, 1) := by decide +kernel
theorem dL_law_673 : decode cL_law 673 = .ok (.iadd, 1) := by decide +kernel
theorem dL_law_674 : decode cL_law 674 = .ok (.iaload, 1) := by decide +kernel
theorem dL_law_675 : decode cL_law 675 = .ok (.aload_n 0, 1) := by decide +kernel
theorem dL_law_676 : decode cL_law 676 = .ok (.iload_n 3, 1) := by decide +kernel
theorem dL_law_677 : decode cL_law 677 = .ok (.iconst 2, 1) := by decide +kernel
theorem dL_law_678 : decode cL_law 678 = .ok (.iadd, 1) := by decide +kernel
theorem dL_law_679 : decode cL_law 679 = .ok (.iaload, 1) := by decide +kernel
theorem dL_law_680 : decode cL_law 680 = .ok (.aload_n 0, 1) := by decide +kernel
theorem dL_law_681 : decode cL_law 681 = .ok (.iload_n 3, 1) := by decide +kernel
theorem dL_law_682 : decode cL_law 682 = .ok (.iconst 3, 1) := by decide +kernel
theorem dL_law_683 : decode cL_law 683 = .ok (.iadd, 1) := by decide +kernel
theorem dL_law_684 : decode cL_law 684 = .ok (.iaload, 1) := by decide +kernel
theorem dL_law_685 : decode cL_law 685 = .ok (.ifCond .eq 7, 3) := by decide +kernel
theorem dL_law_688 : decode cL_law 688 = .ok (.iconst 1, 1) := by decide +kernel
theorem dL_law_689 : decode cL_law 689 = .ok (.goto 4, 3) := by decide +kernel
theorem dL_law_692 : decode cL_law 692 = .ok (.iconst 0, 1) := by decide +kernel
theorem dL_law_693 : decode cL_law 693 = .ok (.invokevirtual 90, 3) := by decide +kernel
theorem dL_law_696 : decode cL_law 696 = .ok (.if_icmp .eq 51, 3) := by decide +kernel
theorem dL_law_699 : decode cL_law 699 = .ok (.iconst 0, 1) := by decide +kernel
theorem dL_law_700 : decode cL_law 700 = .ok (.ireturn, 1) := by decide +kernel
theorem dL_law_701 : decode cL_law 701 = .ok (.aload_n 1, 1) := by decide +kernel
theorem dL_law_702 : decode cL_law 702 = .ok (.invokevirtual 91, 3) := by decide +kernel
theorem dL_law_705 : decode cL_law 705 = .ok (.aload_n 2, 1) := by decide +kernel
theorem dL_law_706 : decode cL_law 706 = .ok (.invokevirtual 94, 3) := by decide +kernel
theorem dL_law_709 : decode cL_law 709 = .ok (.if_icmp .eq 38, 3) := by decide +kernel
theorem dL_law_712 : decode cL_law 712 = .ok (.iconst 0, 1) := by decide +kernel
theorem dL_law_713 : decode cL_law 713 = .ok (.ireturn, 1) := by decide +kernel
theorem dL_law_714 : decode cL_law 714 = .ok (.aload_n 1, 1) := by decide +kernel
theorem dL_law_715 : decode cL_law 715 = .ok (.aload_n 0, 1) := by decide +kernel
theorem dL_law_716 : decode cL_law 716 = .ok (.iload_n 3, 1) := by decide +kernel
theorem dL_law_717 : decode cL_law 717 = .ok (.iconst 1, 1) := by decide +kernel
theorem dL_law_718 : decode cL_law 718 = .ok (.iadd, 1) := by decide +kernel
theorem dL_law_719 : decode cL_law 719 = .ok (.iaload, 1) := by decide +kernel
theorem dL_law_720 : decode cL_law 720 = .ok (.aload_n 0, 1) := by decide +kernel
theorem dL_law_721 : decode cL_law 721 = .ok (.iload_n 3, 1) := by decide +kernel
theorem dL_law_722 : decode cL_law 722 = .ok (.iconst 2, 1) := by decide +kernel
theorem dL_law_723 : decode cL_law 723 = .ok (.iadd, 1) := by decide +kernel
theorem dL_law_724 : decode cL_law 724 = .ok (.iaload, 1) := by decide +kernel
theorem dL_law_725 : decode cL_law 725 = .ok (.invokevirtual 95, 3) := by decide +kernel
theorem dL_law_728 : decode cL_law 728 = .ok (.aload_n 2, 1) := by decide +kernel
theorem dL_law_729 : decode cL_law 729 = .ok (.aload_n 0, 1) := by decide +kernel
theorem dL_law_730 : decode cL_law 730 = .ok (.iload_n 3, 1) := by decide +kernel
theorem dL_law_731 : decode cL_law 731 = .ok (.iconst 1, 1) := by decide +kernel
theorem dL_law_732 : decode cL_law 732 = .ok (.iadd, 1) := by decide +kernel
theorem dL_law_733 : decode cL_law 733 = .ok (.iaload, 1) := by decide +kernel
theorem dL_law_734 : decode cL_law 734 = .ok (.aload_n 0, 1) := by decide +kernel
theorem dL_law_735 : decode cL_law 735 = .ok (.iload_n 3, 1) := by decide +kernel
theorem dL_law_736 : decode cL_law 736 = .ok (.iconst 2, 1) := by decide +kernel
theorem dL_law_737 : decode cL_law 737 = .ok (.iadd, 1) := by decide +kernel
theorem dL_law_738 : decode cL_law 738 = .ok (.iaload, 1) := by decide +kernel
theorem dL_law_739 : decode cL_law 739 = .ok (.invokevirtual 98, 3) := by decide +kernel
theorem dL_law_742 : decode cL_law 742 = .ok (.if_icmp .eq 5, 3) := by decide +kernel
theorem dL_law_745 : decode cL_law 745 = .ok (.iconst 0, 1) := by decide +kernel
theorem dL_law_746 : decode cL_law 746 = .ok (.ireturn, 1) := by decide +kernel
theorem dL_law_747 : decode cL_law 747 = .ok (.iinc 3 6, 3) := by decide +kernel
theorem dL_law_750 : decode cL_law 750 = .ok (.goto (-732), 3) := by decide +kernel
theorem dL_law_753 : decode cL_law 753 = .ok (.iconst 1, 1) := by decide +kernel
theorem dL_law_754 : decode cL_law 754 = .ok (.ireturn, 1) := by decide +kernel
end
section
theorem o_X7_3 : Cond.methodLink RX7 3 objectInit ∈ lw_tbl := by decide +kernel
theorem n_X7_9 : Cond.classLink RX7 9 (Rn 0) ∈ lw_tbl ∧ Cond.instantiable (Rn 0) (cN 0) ∈ lw_tbl ∧ Cond.initialized (Rn 0) ∈ lw_tbl := ⟨by decide +kernel, by decide +kernel, by decide +kernel⟩
theorem c_X7_11 : cL RX7 11 yX0_init cX0_init 2 none 1 := ⟨Or.inl (by decide +kernel), by decide +kernel, by decide +kernel, by decide +kernel, by decide +kernel, by decide +kernel⟩
theorem i_X0_init : Cond.instanceMethod yX0_init ∈ lw_tbl ∧ yX0_init.name = "<init>" := ⟨by decide +kernel, rfl⟩
theorem f_X7_14 : fL RX7 14 7 0 := ⟨by decide, by decide, Or.inl (by decide +kernel)⟩
theorem p_X7_14 : (Tn 7 0).2.2.2 = true ∧ "<init>" = "<init>" ∧ (Tn 7 0).1 = RX7 ∧ Cond.fieldLink RX7 14 (Tn 7 0).1 (Tn 7 0).2.1 (Tn 7 0).2.2.1 ∈ lw_tbl := ⟨rfl, rfl, rfl, by decide +kernel⟩
theorem n_X7_18 : Cond.classLink RX7 18 (Rn 5) ∈ lw_tbl ∧ Cond.instantiable (Rn 5) (cN 5) ∈ lw_tbl ∧ Cond.initialized (Rn 5) ∈ lw_tbl := ⟨by decide +kernel, by decide +kernel, by decide +kernel⟩
theorem c_X7_20 : cL RX7 20 yX5_init cX5_init 2 none 0 := ⟨Or.inl (by decide +kernel), by decide +kernel, by decide +kernel, by decide +kernel, by decide +kernel, by decide +kernel⟩
theorem i_X5_init : Cond.instanceMethod yX5_init ∈ lw_tbl ∧ yX5_init.name = "<init>" := ⟨by decide +kernel, rfl⟩
theorem f_X7_21 : fL RX7 21 7 1 := ⟨by decide, by decide, Or.inl (by decide +kernel)⟩
theorem p_X7_21 : (Tn 7 1).2.2.2 = true ∧ "<init>" = "<init>" ∧ (Tn 7 1).1 = RX7 ∧ Cond.fieldLink RX7 21 (Tn 7 1).1 (Tn 7 1).2.1 (Tn 7 1).2.2.1 ∈ lw_tbl := ⟨rfl, rfl, rfl, by decide +kernel⟩
theorem n_X7_25 : Cond.classLink RX7 25 (Rn 6) ∈ lw_tbl ∧ Cond.instantiable (Rn 6) (cN 6) ∈ lw_tbl ∧ Cond.initialized (Rn 6) ∈ lw_tbl := ⟨by decide +kernel, by decide +kernel, by decide +kernel⟩
theorem c_X7_27 : cL RX7 27 yX6_init cX6_init 1 none 0 := ⟨Or.inr (by decide +kernel), by decide +kernel, by decide +kernel, by decide +kernel, by decide +kernel, by decide +kernel⟩
theorem i_X6_init : Cond.instanceMethod yX6_init ∈ lw_tbl ∧ yX6_init.name = "<init>" := ⟨by decide +kernel, rfl⟩
theorem f_X7_28 : fL RX7 28 7 2 := ⟨by decide, by decide, Or.inl (by decide +kernel)⟩
theorem p_X7_28 : (Tn 7 2).2.2.2 = true ∧ "<init>" = "<init>" ∧ (Tn 7 2).1 = RX7 ∧ Cond.fieldLink RX7 28 (Tn 7 2).1 (Tn 7 2).2.1 (Tn 7 2).2.2.1 ∈ lw_tbl := ⟨rfl, rfl, rfl, by decide +kernel⟩
theorem f_X7_32 : fL RX7 32 7 3 := ⟨by decide, by decide, Or.inl (by decide +kernel)⟩
theorem p_X7_32 : (Tn 7 3).2.2.2 = true ∧ "<init>" = "<init>" ∧ (Tn 7 3).1 = RX7 ∧ Cond.fieldLink RX7 32 (Tn 7 3).1 (Tn 7 3).2.1 (Tn 7 3).2.2.1 ∈ lw_tbl := ⟨rfl, rfl, rfl, by decide +kernel⟩
theorem n_X7_35 : Cond.classLink RX7 35 (Rn 3) ∈ lw_tbl ∧ Cond.instantiable (Rn 3) (cN 3) ∈ lw_tbl ∧ Cond.initialized (Rn 3) ∈ lw_tbl := ⟨by decide +kernel, by decide +kernel, by decide +kernel⟩
theorem c_X7_37 : cL RX7 37 yX3_init cX3_init 1 none 0 := ⟨Or.inr (by decide +kernel), by decide +kernel, by decide +kernel, by decide +kernel, by decide +kernel, by decide +kernel⟩
theorem i_X3_init : Cond.instanceMethod yX3_init ∈ lw_tbl ∧ yX3_init.name = "<init>" := ⟨by decide +kernel, rfl⟩
theorem f_X7_38 : fL RX7 38 7 4 := ⟨by decide, by decide, Or.inl (by decide +kernel)⟩
theorem p_X7_38 : (Tn 7 4).2.2.2 = true ∧ "<init>" = "<init>" ∧ (Tn 7 4).1 = RX7 ∧ Cond.fieldLink RX7 38 (Tn 7 4).1 (Tn 7 4).2.1 (Tn 7 4).2.2.1 ∈ lw_tbl := ⟨rfl, rfl, rfl, by decide +kernel⟩
theorem n_X7_42 : Cond.classLink RX7 42 (Rn 1) ∈ lw_tbl ∧ Cond.instantiable (Rn 1) (cN 1) ∈ lw_tbl ∧ Cond.initialized (Rn 1) ∈ lw_tbl := ⟨by decide +kernel, by decide +kernel, by decide +kernel⟩
theorem c_X7_44 : cL RX7 44 yX1_init cX1_init 1 none 0 := ⟨Or.inr (by decide +kernel), by decide +kernel, by decide +kernel, by decide +kernel, by decide +kernel, by decide +kernel⟩
theorem i_X1_init : Cond.instanceMethod yX1_init ∈ lw_tbl ∧ yX1_init.name = "<init>" := ⟨by decide +kernel, rfl⟩
theorem f_X7_45 : fL RX7 45 7 5 := ⟨by decide, by decide, Or.inl (by decide +kernel)⟩
theorem p_X7_45 : (Tn 7 5).2.2.2 = true ∧ "<init>" = "<init>" ∧ (Tn 7 5).1 = RX7 ∧ Cond.fieldLink RX7 45 (Tn 7 5).1 (Tn 7 5).2.1 (Tn 7 5).2.2.1 ∈ lw_tbl := ⟨rfl, rfl, rfl, by decide +kernel⟩
theorem n_X7_49 : Cond.classLink RX7 49 (Rn 2) ∈ lw_tbl ∧ Cond.instantiable (Rn 2) (cN 2) ∈ lw_tbl ∧ Cond.initialized (Rn 2) ∈ lw_tbl := ⟨by decide +kernel, by decide +kernel, by decide +kernel⟩
theorem c_X7_51 : cL RX7 51 yX2_init cX2_init 1 none 0 := ⟨Or.inr (by decide +kernel), by decide +kernel, by decide +kernel, by decide +kernel, by decide +kernel, by decide +kernel⟩
theorem i_X2_init : Cond.instanceMethod yX2_init ∈ lw_tbl ∧ yX2_init.name = "<init>" := ⟨by decide +kernel, rfl⟩
theorem f_X7_52 : fL RX7 52 7 6 := ⟨by decide, by decide, Or.inl (by decide +kernel)⟩
theorem p_X7_52 : (Tn 7 6).2.2.2 = true ∧ "<init>" = "<init>" ∧ (Tn 7 6).1 = RX7 ∧ Cond.fieldLink RX7 52 (Tn 7 6).1 (Tn 7 6).2.1 (Tn 7 6).2.2.1 ∈ lw_tbl := ⟨rfl, rfl, rfl, by decide +kernel⟩
theorem f_X7_56 : fL RX7 56 0 1 := ⟨by decide, by decide, Or.inr (by decide +kernel)⟩
theorem c_X7_60 : cL RX7 60 yX0_appendFour cX0_appendFour 3 none 1 := ⟨Or.inl (by decide +kernel), by decide +kernel, by decide +kernel, by decide +kernel, by decide +kernel, by decide +kernel⟩
theorem v_X0_appendFour : Cond.instanceMethod yX0_appendFour ∈ lw_tbl ∧ Cond.selects yX0_appendFour.cls yX0_appendFour yX0_appendFour ∈ lw_tbl ∧ 0 < 9 ∧ Rn 0 = yX0_appendFour.cls := ⟨by decide +kernel, by decide +kernel, by decide, rfl⟩
theorem c_X7_63 : cL RX7 63 yX5_replace cX5_replace 5 none 3 := ⟨Or.inl (by decide +kernel), by decide +kernel, by decide +kernel, by decide +kernel, by decide +kernel, by decide +kernel⟩
theorem v_X5_replace : Cond.instanceMethod yX5_replace ∈ lw_tbl ∧ Cond.selects yX5_replace.cls yX5_replace yX5_replace ∈ lw_tbl ∧ 5 < 9 ∧ Rn 5 = yX5_replace.cls := ⟨by decide +kernel, by decide +kernel, by decide, rfl⟩
theorem c_X7_67 : cL RX7 67 yX5_has cX5_has 2 (some .boolean) 1 := ⟨Or.inl (by decide +kernel), by decide +kernel, by decide +kernel, by decide +kernel, by decide +kernel, by decide +kernel⟩
theorem v_X5_has : Cond.instanceMethod yX5_has ∈ lw_tbl ∧ Cond.selects yX5_has.cls yX5_has yX5_has ∈ lw_tbl ∧ 5 < 9 ∧ Rn 5 = yX5_has.cls := ⟨by decide +kernel, by decide +kernel, by decide, rfl⟩
theorem c_X7_71 : cL RX7 71 yX5_bytesOf cX5_bytesOf 2 (some (.object "PatchBench$Bytes")) 1 := ⟨Or.inl (by decide +kernel), by decide +kernel, by decide +kernel, by decide +kernel, by decide +kernel, by decide +kernel⟩
theorem v_X5_bytesOf : Cond.instanceMethod yX5_bytesOf ∈ lw_tbl ∧ Cond.selects yX5_bytesOf.cls yX5_bytesOf yX5_bytesOf ∈ lw_tbl ∧ 5 < 9 ∧ Rn 5 = yX5_bytesOf.cls := ⟨by decide +kernel, by decide +kernel, by decide, rfl⟩
theorem c_X7_75 : cL RX7 75 yX0_at cX0_at 2 (some .int) 1 := ⟨Or.inl (by decide +kernel), by decide +kernel, by decide +kernel, by decide +kernel, by decide +kernel, by decide +kernel⟩
theorem v_X0_at : Cond.instanceMethod yX0_at ∈ lw_tbl ∧ Cond.selects yX0_at.cls yX0_at yX0_at ∈ lw_tbl ∧ 0 < 9 ∧ Rn 0 = yX0_at.cls := ⟨by decide +kernel, by decide +kernel, by decide, rfl⟩
theorem c_X7_79 : cL RX7 79 yX0_checksum cX0_checksum 3 (some .int) 0 := ⟨Or.inl (by decide +kernel), by decide +kernel, by decide +kernel, by decide +kernel, by decide +kernel, by decide +kernel⟩
theorem v_X0_checksum : Cond.instanceMethod yX0_checksum ∈ lw_tbl ∧ Cond.selects yX0_checksum.cls yX0_checksum yX0_checksum ∈ lw_tbl ∧ 0 < 9 ∧ Rn 0 = yX0_checksum.cls := ⟨by decide +kernel, by decide +kernel, by decide, rfl⟩
theorem c_X7_83 : cL RX7 83 yX5_priceOf cX5_priceOf 3 (some .int) 2 := ⟨Or.inl (by decide +kernel), by decide +kernel, by decide +kernel, by decide +kernel, by decide +kernel, by decide +kernel⟩
theorem v_X5_priceOf : Cond.instanceMethod yX5_priceOf ∈ lw_tbl ∧ Cond.selects yX5_priceOf.cls yX5_priceOf yX5_priceOf ∈ lw_tbl ∧ 5 < 9 ∧ Rn 5 = yX5_priceOf.cls := ⟨by decide +kernel, by decide +kernel, by decide, rfl⟩
theorem c_X7_87 : cL RX7 87 yX5_patchOf cX5_patchOf 4 (some (.object "PatchBench$Patch")) 2 := ⟨Or.inl (by decide +kernel), by decide +kernel, by decide +kernel, by decide +kernel, by decide +kernel, by decide +kernel⟩
theorem v_X5_patchOf : Cond.instanceMethod yX5_patchOf ∈ lw_tbl ∧ Cond.selects yX5_patchOf.cls yX5_patchOf yX5_patchOf ∈ lw_tbl ∧ 5 < 9 ∧ Rn 5 = yX5_patchOf.cls := ⟨by decide +kernel, by decide +kernel, by decide, rfl⟩
theorem c_X7_91 : cL RX7 91 yX3_tell cX3_tell 3 (some .int) 2 := ⟨Or.inl (by decide +kernel), by decide +kernel, by decide +kernel, by decide +kernel, by decide +kernel, by decide +kernel⟩
theorem v_X3_tell : Cond.instanceMethod yX3_tell ∈ lw_tbl ∧ Cond.selects yX3_tell.cls yX3_tell yX3_tell ∈ lw_tbl ∧ 3 < 9 ∧ Rn 3 = yX3_tell.cls := ⟨by decide +kernel, by decide +kernel, by decide, rfl⟩
theorem c_X7_94 : cL RX7 94 yX6_follow cX6_follow 6 none 2 := ⟨Or.inl (by decide +kernel), by decide +kernel, by decide +kernel, by decide +kernel, by decide +kernel, by decide +kernel⟩
theorem v_X6_follow : Cond.instanceMethod yX6_follow ∈ lw_tbl ∧ Cond.selects yX6_follow.cls yX6_follow yX6_follow ∈ lw_tbl ∧ 6 < 9 ∧ Rn 6 = yX6_follow.cls := ⟨by decide +kernel, by decide +kernel, by decide, rfl⟩
theorem c_X7_98 : cL RX7 98 yX6_reachThrough cX6_reachThrough 4 none 1 := ⟨Or.inl (by decide +kernel), by decide +kernel, by decide +kernel, by decide +kernel, by decide +kernel, by decide +kernel⟩
theorem v_X6_reachThrough : Cond.instanceMethod yX6_reachThrough ∈ lw_tbl ∧ Cond.selects yX6_reachThrough.cls yX6_reachThrough yX6_reachThrough ∈ lw_tbl ∧ 6 < 9 ∧ Rn 6 = yX6_reachThrough.cls := ⟨by decide +kernel, by decide +kernel, by decide, rfl⟩
theorem c_X7_102 : cL RX7 102 yX6_gather cX6_gather 5 none 1 := ⟨Or.inl (by decide +kernel), by decide +kernel, by decide +kernel, by decide +kernel, by decide +kernel, by decide +kernel⟩
theorem v_X6_gather : Cond.instanceMethod yX6_gather ∈ lw_tbl ∧ Cond.selects yX6_gather.cls yX6_gather yX6_gather ∈ lw_tbl ∧ 6 < 9 ∧ Rn 6 = yX6_gather.cls := ⟨by decide +kernel, by decide +kernel, by decide, rfl⟩
theorem f_X7_106 : fL RX7 106 3 5 := ⟨by decide, by decide, Or.inr (by decide +kernel)⟩
theorem f_X7_109 : fL RX7 109 3 4 := ⟨by decide, by decide, Or.inr (by decide +kernel)⟩
theorem c_X7_112 : cL RX7 112 yX6_countKept cX6_countKept 5 (some .int) 1 := ⟨Or.inl (by decide +kernel), by decide +kernel, by decide +kernel, by decide +kernel, by decide +kernel, by decide +kernel⟩
theorem v_X6_countKept : Cond.instanceMethod yX6_countKept ∈ lw_tbl ∧ Cond.selects yX6_countKept.cls yX6_countKept yX6_countKept ∈ lw_tbl ∧ 6 < 9 ∧ Rn 6 = yX6_countKept.cls := ⟨by decide +kernel, by decide +kernel, by decide, rfl⟩
theorem m_X7_115 : Cond.methodLink RX7 115 Lib.Math.min.name ∈ lw_tbl := by decide +kernel
theorem c_X7_120 : cL RX7 120 yX1_load cX1_load 2 none 1 := ⟨Or.inl (by decide +kernel), by decide +kernel, by decide +kernel, by decide +kernel, by decide +kernel, by decide +kernel⟩
theorem v_X1_load : Cond.instanceMethod yX1_load ∈ lw_tbl ∧ Cond.selects yX1_load.cls yX1_load yX1_load ∈ lw_tbl ∧ 1 < 9 ∧ Rn 1 = yX1_load.cls := ⟨by decide +kernel, by decide +kernel, by decide, rfl⟩
theorem f_X7_124 : fL RX7 124 1 9 := ⟨by decide, by decide, Or.inr (by decide +kernel)⟩
theorem c_X7_128 : cL RX7 128 yX1_fits cX1_fits 2 (some .boolean) 1 := ⟨Or.inl (by decide +kernel), by decide +kernel, by decide +kernel, by decide +kernel, by decide +kernel, by decide +kernel⟩
theorem v_X1_fits : Cond.instanceMethod yX1_fits ∈ lw_tbl ∧ Cond.selects yX1_fits.cls yX1_fits yX1_fits ∈ lw_tbl ∧ 1 < 9 ∧ Rn 1 = yX1_fits.cls := ⟨by decide +kernel, by decide +kernel, by decide, rfl⟩
theorem c_X7_132 : cL RX7 132 yX1_begin cX1_begin 3 none 1 := ⟨Or.inl (by decide +kernel), by decide +kernel, by decide +kernel, by decide +kernel, by decide +kernel, by decide +kernel⟩
theorem v_X1_begin : Cond.instanceMethod yX1_begin ∈ lw_tbl ∧ Cond.selects yX1_begin.cls yX1_begin yX1_begin ∈ lw_tbl ∧ 1 < 9 ∧ Rn 1 = yX1_begin.cls := ⟨by decide +kernel, by decide +kernel, by decide, rfl⟩
theorem c_X7_135 : cL RX7 135 yX1_writesLeft cX1_writesLeft 1 (some .int) 0 := ⟨Or.inl (by decide +kernel), by decide +kernel, by decide +kernel, by decide +kernel, by decide +kernel, by decide +kernel⟩
theorem v_X1_writesLeft : Cond.instanceMethod yX1_writesLeft ∈ lw_tbl ∧ Cond.selects yX1_writesLeft.cls yX1_writesLeft yX1_writesLeft ∈ lw_tbl ∧ 1 < 9 ∧ Rn 1 = yX1_writesLeft.cls := ⟨by decide +kernel, by decide +kernel, by decide, rfl⟩
theorem f_X7_138 : fL RX7 138 1 10 := ⟨by decide, by decide, Or.inr (by decide +kernel)⟩
theorem c_X7_141 : cL RX7 141 yX1_makeWrites cX1_makeWrites 3 (some .int) 1 := ⟨Or.inl (by decide +kernel), by decide +kernel, by decide +kernel, by decide +kernel, by decide +kernel, by decide +kernel⟩
theorem v_X1_makeWrites : Cond.instanceMethod yX1_makeWrites ∈ lw_tbl ∧ Cond.selects yX1_makeWrites.cls yX1_makeWrites yX1_makeWrites ∈ lw_tbl ∧ 1 < 9 ∧ Rn 1 = yX1_makeWrites.cls := ⟨by decide +kernel, by decide +kernel, by decide, rfl⟩
theorem c_X7_144 : cL RX7 144 yX1_resume cX1_resume 1 none 0 := ⟨Or.inl (by decide +kernel), by decide +kernel, by decide +kernel, by decide +kernel, by decide +kernel, by decide +kernel⟩
theorem v_X1_resume : Cond.instanceMethod yX1_resume ∈ lw_tbl ∧ Cond.selects yX1_resume.cls yX1_resume yX1_resume ∈ lw_tbl ∧ 1 < 9 ∧ Rn 1 = yX1_resume.cls := ⟨by decide +kernel, by decide +kernel, by decide, rfl⟩
theorem c_X7_147 : cL RX7 147 yX1_tell cX1_tell 2 (some .int) 1 := ⟨Or.inl (by decide +kernel), by decide +kernel, by decide +kernel, by decide +kernel, by decide +kernel, by decide +kernel⟩
theorem v_X1_tell : Cond.instanceMethod yX1_tell ∈ lw_tbl ∧ Cond.selects yX1_tell.cls yX1_tell yX1_tell ∈ lw_tbl ∧ 1 < 9 ∧ Rn 1 = yX1_tell.cls := ⟨by decide +kernel, by decide +kernel, by decide, rfl⟩
theorem c_X7_149 : cL RX7 149 yX1_areaByte cX1_areaByte 2 (some .int) 1 := ⟨Or.inl (by decide +kernel), by decide +kernel, by decide +kernel, by decide +kernel, by decide +kernel, by decide +kernel⟩
theorem v_X1_areaByte : Cond.instanceMethod yX1_areaByte ∈ lw_tbl ∧ Cond.selects yX1_areaByte.cls yX1_areaByte yX1_areaByte ∈ lw_tbl ∧ 1 < 9 ∧ Rn 1 = yX1_areaByte.cls := ⟨by decide +kernel, by decide +kernel, by decide, rfl⟩
theorem c_X7_152 : cL RX7 152 yX2_setDevices cX2_setDevices 3 none 2 := ⟨Or.inl (by decide +kernel), by decide +kernel, by decide +kernel, by decide +kernel, by decide +kernel, by decide +kernel⟩
theorem v_X2_setDevices : Cond.instanceMethod yX2_setDevices ∈ lw_tbl ∧ Cond.selects yX2_setDevices.cls yX2_setDevices yX2_setDevices ∈ lw_tbl ∧ 2 < 9 ∧ Rn 2 = yX2_setDevices.cls := ⟨by decide +kernel, by decide +kernel, by decide, rfl⟩
theorem c_X7_156 : cL RX7 156 yX2_holdPair cX2_holdPair 5 (some .boolean) 3 := ⟨Or.inl (by decide +kernel), by decide +kernel, by decide +kernel, by decide +kernel, by decide +kernel, by decide +kernel⟩
theorem v_X2_holdPair : Cond.instanceMethod yX2_holdPair ∈ lw_tbl ∧ Cond.selects yX2_holdPair.cls yX2_holdPair yX2_holdPair ∈ lw_tbl ∧ 2 < 9 ∧ Rn 2 = yX2_holdPair.cls := ⟨by decide +kernel, by decide +kernel, by decide, rfl⟩
theorem c_X7_160 : cL RX7 160 yX5_greatest cX5_greatest 2 (some .int) 0 := ⟨Or.inl (by decide +kernel), by decide +kernel, by decide +kernel, by decide +kernel, by decide +kernel, by decide +kernel⟩
theorem v_X5_greatest : Cond.instanceMethod yX5_greatest ∈ lw_tbl ∧ Cond.selects yX5_greatest.cls yX5_greatest yX5_greatest ∈ lw_tbl ∧ 5 < 9 ∧ Rn 5 = yX5_greatest.cls := ⟨by decide +kernel, by decide +kernel, by decide, rfl⟩
theorem f_X7_163 : fL RX7 163 2 3 := ⟨by decide, by decide, Or.inr (by decide +kernel)⟩
theorem c_X7_166 : cL RX7 166 yX2_learnPrices cX2_learnPrices 5 none 2 := ⟨Or.inl (by decide +kernel), by decide +kernel, by decide +kernel, by decide +kernel, by decide +kernel, by decide +kernel⟩
theorem v_X2_learnPrices : Cond.instanceMethod yX2_learnPrices ∈ lw_tbl ∧ Cond.selects yX2_learnPrices.cls yX2_learnPrices yX2_learnPrices ∈ lw_tbl ∧ 2 < 9 ∧ Rn 2 = yX2_learnPrices.cls := ⟨by decide +kernel, by decide +kernel, by decide, rfl⟩
theorem c_X7_170 : cL RX7 170 yX2_sentWith cX2_sentWith 4 (some .int) 1 := ⟨Or.inl (by decide +kernel), by decide +kernel, by decide +kernel, by decide +kernel, by decide +kernel, by decide +kernel⟩
theorem v_X2_sentWith : Cond.instanceMethod yX2_sentWith ∈ lw_tbl ∧ Cond.selects yX2_sentWith.cls yX2_sentWith yX2_sentWith ∈ lw_tbl ∧ 2 < 9 ∧ Rn 2 = yX2_sentWith.cls := ⟨by decide +kernel, by decide +kernel, by decide, rfl⟩
theorem c_X7_173 : cL RX7 173 yX2_choose cX2_choose 3 none 1 := ⟨Or.inl (by decide +kernel), by decide +kernel, by decide +kernel, by decide +kernel, by decide +kernel, by decide +kernel⟩
theorem v_X2_choose : Cond.instanceMethod yX2_choose ∈ lw_tbl ∧ Cond.selects yX2_choose.cls yX2_choose yX2_choose ∈ lw_tbl ∧ 2 < 9 ∧ Rn 2 = yX2_choose.cls := ⟨by decide +kernel, by decide +kernel, by decide, rfl⟩
theorem f_X7_176 : fL RX7 176 2 6 := ⟨by decide, by decide, Or.inr (by decide +kernel)⟩
theorem f_X7_179 : fL RX7 179 2 7 := ⟨by decide, by decide, Or.inr (by decide +kernel)⟩
theorem o_X8_1 : Cond.methodLink RX8 1 objectInit ∈ lw_tbl := by decide +kernel
theorem f_X8_7 : fL RX8 7 8 0 := ⟨by decide, by decide, Or.inl (by decide +kernel)⟩
theorem p_X8_7 : (Tn 8 0).2.2.2 = true ∧ "<init>" = "<init>" ∧ (Tn 8 0).1 = RX8 ∧ Cond.fieldLink RX8 7 (Tn 8 0).1 (Tn 8 0).2.1 (Tn 8 0).2.2.1 ∈ lw_tbl := ⟨rfl, rfl, rfl, by decide +kernel⟩
theorem f_X8_13 : fL RX8 13 8 2 := ⟨by decide, by decide, Or.inl (by decide +kernel)⟩
theorem p_X8_13 : (Tn 8 2).2.2.2 = true ∧ "<init>" = "<init>" ∧ (Tn 8 2).1 = RX8 ∧ Cond.fieldLink RX8 13 (Tn 8 2).1 (Tn 8 2).2.1 (Tn 8 2).2.2.1 ∈ lw_tbl := ⟨rfl, rfl, rfl, by decide +kernel⟩
theorem f_X8_16 : fL RX8 16 8 3 := ⟨by decide, by decide, Or.inl (by decide +kernel)⟩
theorem p_X8_16 : (Tn 8 3).2.2.2 = true ∧ "<init>" = "<init>" ∧ (Tn 8 3).1 = RX8 ∧ Cond.fieldLink RX8 16 (Tn 8 3).1 (Tn 8 3).2.1 (Tn 8 3).2.2.1 ∈ lw_tbl := ⟨rfl, rfl, rfl, by decide +kernel⟩
theorem f_X8_20 : fL RX8 20 8 4 := ⟨by decide, by decide, Or.inl (by decide +kernel)⟩
theorem p_X8_20 : (Tn 8 4).2.2.2 = true ∧ "<init>" = "<init>" ∧ (Tn 8 4).1 = RX8 ∧ Cond.fieldLink RX8 20 (Tn 8 4).1 (Tn 8 4).2.1 (Tn 8 4).2.2.1 ∈ lw_tbl := ⟨rfl, rfl, rfl, by decide +kernel⟩
theorem f_X8_23 : fL RX8 23 8 5 := ⟨by decide, by decide, Or.inl (by decide +kernel)⟩
theorem p_X8_23 : (Tn 8 5).2.2.2 = true ∧ "<init>" = "<init>" ∧ (Tn 8 5).1 = RX8 ∧ Cond.fieldLink RX8 23 (Tn 8 5).1 (Tn 8 5).2.1 (Tn 8 5).2.2.1 ∈ lw_tbl := ⟨rfl, rfl, rfl, by decide +kernel⟩
theorem f_X8_26 : fL RX8 26 8 6 := ⟨by decide, by decide, Or.inl (by decide +kernel)⟩
theorem p_X8_26 : (Tn 8 6).2.2.2 = true ∧ "<init>" = "<init>" ∧ (Tn 8 6).1 = RX8 ∧ Cond.fieldLink RX8 26 (Tn 8 6).1 (Tn 8 6).2.1 (Tn 8 6).2.2.1 ∈ lw_tbl := ⟨rfl, rfl, rfl, by decide +kernel⟩
theorem f_X8_29 : fL RX8 29 8 7 := ⟨by decide, by decide, Or.inl (by decide +kernel)⟩
theorem p_X8_29 : (Tn 8 7).2.2.2 = true ∧ "<init>" = "<init>" ∧ (Tn 8 7).1 = RX8 ∧ Cond.fieldLink RX8 29 (Tn 8 7).1 (Tn 8 7).2.1 (Tn 8 7).2.2.1 ∈ lw_tbl := ⟨rfl, rfl, rfl, by decide +kernel⟩
theorem f_X8_32 : fL RX8 32 8 8 := ⟨by decide, by decide, Or.inl (by decide +kernel)⟩
theorem p_X8_32 : (Tn 8 8).2.2.2 = true ∧ "<init>" = "<init>" ∧ (Tn 8 8).1 = RX8 ∧ Cond.fieldLink RX8 32 (Tn 8 8).1 (Tn 8 8).2.1 (Tn 8 8).2.2.1 ∈ lw_tbl := ⟨rfl, rfl, rfl, by decide +kernel⟩
theorem f_X8_35 : fL RX8 35 8 9 := ⟨by decide, by decide, Or.inl (by decide +kernel)⟩
theorem p_X8_35 : (Tn 8 9).2.2.2 = true ∧ "<init>" = "<init>" ∧ (Tn 8 9).1 = RX8 ∧ Cond.fieldLink RX8 35 (Tn 8 9).1 (Tn 8 9).2.1 (Tn 8 9).2.2.1 ∈ lw_tbl := ⟨rfl, rfl, rfl, by decide +kernel⟩
theorem f_X8_38 : fL RX8 38 8 12 := ⟨by decide, by decide, Or.inl (by decide +kernel)⟩
theorem p_X8_38 : (Tn 8 12).2.2.2 = true ∧ "<init>" = "<init>" ∧ (Tn 8 12).1 = RX8 ∧ Cond.fieldLink RX8 38 (Tn 8 12).1 (Tn 8 12).2.1 (Tn 8 12).2.2.1 ∈ lw_tbl := ⟨rfl, rfl, rfl, by decide +kernel⟩
theorem f_X8_41 : fL RX8 41 8 13 := ⟨by decide, by decide, Or.inl (by decide +kernel)⟩
theorem p_X8_41 : (Tn 8 13).2.2.2 = true ∧ "<init>" = "<init>" ∧ (Tn 8 13).1 = RX8 ∧ Cond.fieldLink RX8 41 (Tn 8 13).1 (Tn 8 13).2.1 (Tn 8 13).2.2.1 ∈ lw_tbl := ⟨rfl, rfl, rfl, by decide +kernel⟩
theorem f_X8_44 : fL RX8 44 8 14 := ⟨by decide, by decide, Or.inl (by decide +kernel)⟩
theorem p_X8_44 : (Tn 8 14).2.2.2 = true ∧ "<init>" = "<init>" ∧ (Tn 8 14).1 = RX8 ∧ Cond.fieldLink RX8 44 (Tn 8 14).1 (Tn 8 14).2.1 (Tn 8 14).2.2.1 ∈ lw_tbl := ⟨rfl, rfl, rfl, by decide +kernel⟩
theorem f_X8_47 : fL RX8 47 8 15 := ⟨by decide, by decide, Or.inl (by decide +kernel)⟩
theorem p_X8_47 : (Tn 8 15).2.2.2 = true ∧ "<init>" = "<init>" ∧ (Tn 8 15).1 = RX8 ∧ Cond.fieldLink RX8 47 (Tn 8 15).1 (Tn 8 15).2.1 (Tn 8 15).2.2.1 ∈ lw_tbl := ⟨rfl, rfl, rfl, by decide +kernel⟩
theorem f_X8_50 : fL RX8 50 8 16 := ⟨by decide, by decide, Or.inl (by decide +kernel)⟩
theorem p_X8_50 : (Tn 8 16).2.2.2 = true ∧ "<init>" = "<init>" ∧ (Tn 8 16).1 = RX8 ∧ Cond.fieldLink RX8 50 (Tn 8 16).1 (Tn 8 16).2.1 (Tn 8 16).2.2.1 ∈ lw_tbl := ⟨rfl, rfl, rfl, by decide +kernel⟩
theorem f_X8_53 : fL RX8 53 8 17 := ⟨by decide, by decide, Or.inl (by decide +kernel)⟩
theorem p_X8_53 : (Tn 8 17).2.2.2 = true ∧ "<init>" = "<init>" ∧ (Tn 8 17).1 = RX8 ∧ Cond.fieldLink RX8 53 (Tn 8 17).1 (Tn 8 17).2.1 (Tn 8 17).2.2.1 ∈ lw_tbl := ⟨rfl, rfl, rfl, by decide +kernel⟩
theorem f_X8_56 : fL RX8 56 8 18 := ⟨by decide, by decide, Or.inl (by decide +kernel)⟩
theorem p_X8_56 : (Tn 8 18).2.2.2 = true ∧ "<init>" = "<init>" ∧ (Tn 8 18).1 = RX8 ∧ Cond.fieldLink RX8 56 (Tn 8 18).1 (Tn 8 18).2.1 (Tn 8 18).2.2.1 ∈ lw_tbl := ⟨rfl, rfl, rfl, by decide +kernel⟩
theorem f_X8_59 : fL RX8 59 8 19 := ⟨by decide, by decide, Or.inl (by decide +kernel)⟩
theorem p_X8_59 : (Tn 8 19).2.2.2 = true ∧ "<init>" = "<init>" ∧ (Tn 8 19).1 = RX8 ∧ Cond.fieldLink RX8 59 (Tn 8 19).1 (Tn 8 19).2.1 (Tn 8 19).2.2.1 ∈ lw_tbl := ⟨rfl, rfl, rfl, by decide +kernel⟩
theorem f_X8_62 : fL RX8 62 8 21 := ⟨by decide, by decide, Or.inl (by decide +kernel)⟩
theorem p_X8_62 : (Tn 8 21).2.2.2 = true ∧ "<init>" = "<init>" ∧ (Tn 8 21).1 = RX8 ∧ Cond.fieldLink RX8 62 (Tn 8 21).1 (Tn 8 21).2.1 (Tn 8 21).2.2.1 ∈ lw_tbl := ⟨rfl, rfl, rfl, by decide +kernel⟩
theorem f_X8_66 : fL RX8 66 8 22 := ⟨by decide, by decide, Or.inl (by decide +kernel)⟩
theorem p_X8_66 : (Tn 8 22).2.2.2 = true ∧ "<init>" = "<init>" ∧ (Tn 8 22).1 = RX8 ∧ Cond.fieldLink RX8 66 (Tn 8 22).1 (Tn 8 22).2.1 (Tn 8 22).2.2.1 ∈ lw_tbl := ⟨rfl, rfl, rfl, by decide +kernel⟩
theorem f_X8_69 : fL RX8 69 8 23 := ⟨by decide, by decide, Or.inl (by decide +kernel)⟩
theorem p_X8_69 : (Tn 8 23).2.2.2 = true ∧ "<init>" = "<init>" ∧ (Tn 8 23).1 = RX8 ∧ Cond.fieldLink RX8 69 (Tn 8 23).1 (Tn 8 23).2.1 (Tn 8 23).2.2.1 ∈ lw_tbl := ⟨rfl, rfl, rfl, by decide +kernel⟩
theorem f_X8_72 : fL RX8 72 8 32 := ⟨by decide, by decide, Or.inl (by decide +kernel)⟩
theorem p_X8_72 : (Tn 8 32).2.2.2 = true ∧ "<init>" = "<init>" ∧ (Tn 8 32).1 = RX8 ∧ Cond.fieldLink RX8 72 (Tn 8 32).1 (Tn 8 32).2.1 (Tn 8 32).2.2.1 ∈ lw_tbl := ⟨rfl, rfl, rfl, by decide +kernel⟩
theorem f_X8_75 : fL RX8 75 8 33 := ⟨by decide, by decide, Or.inl (by decide +kernel)⟩
theorem p_X8_75 : (Tn 8 33).2.2.2 = true ∧ "<init>" = "<init>" ∧ (Tn 8 33).1 = RX8 ∧ Cond.fieldLink RX8 75 (Tn 8 33).1 (Tn 8 33).2.1 (Tn 8 33).2.2.1 ∈ lw_tbl := ⟨rfl, rfl, rfl, by decide +kernel⟩
theorem f_X8_78 : fL RX8 78 8 34 := ⟨by decide, by decide, Or.inl (by decide +kernel)⟩
theorem p_X8_78 : (Tn 8 34).2.2.2 = true ∧ "<init>" = "<init>" ∧ (Tn 8 34).1 = RX8 ∧ Cond.fieldLink RX8 78 (Tn 8 34).1 (Tn 8 34).2.1 (Tn 8 34).2.2.1 ∈ lw_tbl := ⟨rfl, rfl, rfl, by decide +kernel⟩
theorem f_X8_81 : fL RX8 81 8 35 := ⟨by decide, by decide, Or.inl (by decide +kernel)⟩
theorem p_X8_81 : (Tn 8 35).2.2.2 = true ∧ "<init>" = "<init>" ∧ (Tn 8 35).1 = RX8 ∧ Cond.fieldLink RX8 81 (Tn 8 35).1 (Tn 8 35).2.1 (Tn 8 35).2.2.1 ∈ lw_tbl := ⟨rfl, rfl, rfl, by decide +kernel⟩
theorem f_X8_84 : fL RX8 84 8 36 := ⟨by decide, by decide, Or.inl (by decide +kernel)⟩
theorem p_X8_84 : (Tn 8 36).2.2.2 = true ∧ "<init>" = "<init>" ∧ (Tn 8 36).1 = RX8 ∧ Cond.fieldLink RX8 84 (Tn 8 36).1 (Tn 8 36).2.1 (Tn 8 36).2.2.1 ∈ lw_tbl := ⟨rfl, rfl, rfl, by decide +kernel⟩
theorem f_X8_87 : fL RX8 87 8 37 := ⟨by decide, by decide, Or.inl (by decide +kernel)⟩
theorem p_X8_87 : (Tn 8 37).2.2.2 = true ∧ "<init>" = "<init>" ∧ (Tn 8 37).1 = RX8 ∧ Cond.fieldLink RX8 87 (Tn 8 37).1 (Tn 8 37).2.1 (Tn 8 37).2.2.1 ∈ lw_tbl := ⟨rfl, rfl, rfl, by decide +kernel⟩
theorem f_X8_90 : fL RX8 90 8 38 := ⟨by decide, by decide, Or.inl (by decide +kernel)⟩
theorem p_X8_90 : (Tn 8 38).2.2.2 = true ∧ "<init>" = "<init>" ∧ (Tn 8 38).1 = RX8 ∧ Cond.fieldLink RX8 90 (Tn 8 38).1 (Tn 8 38).2.1 (Tn 8 38).2.2.1 ∈ lw_tbl := ⟨rfl, rfl, rfl, by decide +kernel⟩
theorem f_X8_93 : fL RX8 93 8 39 := ⟨by decide, by decide, Or.inl (by decide +kernel)⟩
theorem p_X8_93 : (Tn 8 39).2.2.2 = true ∧ "<init>" = "<init>" ∧ (Tn 8 39).1 = RX8 ∧ Cond.fieldLink RX8 93 (Tn 8 39).1 (Tn 8 39).2.1 (Tn 8 39).2.2.1 ∈ lw_tbl := ⟨rfl, rfl, rfl, by decide +kernel⟩
theorem f_X8_96 : fL RX8 96 8 40 := ⟨by decide, by decide, Or.inl (by decide +kernel)⟩
theorem p_X8_96 : (Tn 8 40).2.2.2 = true ∧ "<init>" = "<init>" ∧ (Tn 8 40).1 = RX8 ∧ Cond.fieldLink RX8 96 (Tn 8 40).1 (Tn 8 40).2.1 (Tn 8 40).2.2.1 ∈ lw_tbl := ⟨rfl, rfl, rfl, by decide +kernel⟩
theorem c_X8_99 : cL RX8 99 yX8_isIn cX8_isIn 3 (some .boolean) 3 := ⟨Or.inl (by decide +kernel), by decide +kernel, by decide +kernel, by decide +kernel, by decide +kernel, by decide +kernel⟩
theorem s_X8_isIn : Cond.static yX8_isIn ∈ lw_tbl := by decide +kernel
theorem f_X8_103 : fL RX8 103 8 1 := ⟨by decide, by decide, Or.inl (by decide +kernel)⟩
theorem c_X8_107 : cL RX8 107 yX8_four cX8_four 3 none 1 := ⟨Or.inl (by decide +kernel), by decide +kernel, by decide +kernel, by decide +kernel, by decide +kernel, by decide +kernel⟩
theorem v_X8_four : Cond.instanceMethod yX8_four ∈ lw_tbl ∧ Cond.selects yX8_four.cls yX8_four yX8_four ∈ lw_tbl ∧ 8 < 9 ∧ Rn 8 = yX8_four.cls := ⟨by decide +kernel, by decide +kernel, by decide, rfl⟩
theorem m_X8_111 : Cond.methodLink RX8 111 Lib.Math.min.name ∈ lw_tbl := by decide +kernel
theorem c_X8_117 : cL RX8 117 yX8_isVersion cX8_isVersion 2 (some .boolean) 1 := ⟨Or.inl (by decide +kernel), by decide +kernel, by decide +kernel, by decide +kernel, by decide +kernel, by decide +kernel⟩
theorem v_X8_isVersion : Cond.instanceMethod yX8_isVersion ∈ lw_tbl ∧ Cond.selects yX8_isVersion.cls yX8_isVersion yX8_isVersion ∈ lw_tbl ∧ 8 < 9 ∧ Rn 8 = yX8_isVersion.cls := ⟨by decide +kernel, by decide +kernel, by decide, rfl⟩
theorem c_X8_121 : cL RX8 121 yX8_byteOf cX8_byteOf 3 (some .int) 2 := ⟨Or.inl (by decide +kernel), by decide +kernel, by decide +kernel, by decide +kernel, by decide +kernel, by decide +kernel⟩
theorem v_X8_byteOf : Cond.instanceMethod yX8_byteOf ∈ lw_tbl ∧ Cond.selects yX8_byteOf.cls yX8_byteOf yX8_byteOf ∈ lw_tbl ∧ 8 < 9 ∧ Rn 8 = yX8_byteOf.cls := ⟨by decide +kernel, by decide +kernel, by decide, rfl⟩
theorem k_X8_124 : Cond.constant RX8 124 (65521) ∈ lw_tbl := by decide +kernel
theorem c_X8_125 : cL RX8 125 yX8_next cX8_next 2 (some .int) 2 := ⟨Or.inl (by decide +kernel), by decide +kernel, by decide +kernel, by decide +kernel, by decide +kernel, by decide +kernel⟩
theorem s_X8_next : Cond.static yX8_next ∈ lw_tbl := by decide +kernel
theorem c_X8_128 : cL RX8 128 yX8_apart cX8_apart 5 (some .int) 4 := ⟨Or.inl (by decide +kernel), by decide +kernel, by decide +kernel, by decide +kernel, by decide +kernel, by decide +kernel⟩
theorem v_X8_apart : Cond.instanceMethod yX8_apart ∈ lw_tbl ∧ Cond.selects yX8_apart.cls yX8_apart yX8_apart ∈ lw_tbl ∧ 8 < 9 ∧ Rn 8 = yX8_apart.cls := ⟨by decide +kernel, by decide +kernel, by decide, rfl⟩
theorem c_X8_132 : cL RX8 132 yX8_runAt cX8_runAt 3 (some .int) 2 := ⟨Or.inl (by decide +kernel), by decide +kernel, by decide +kernel, by decide +kernel, by decide +kernel, by decide +kernel⟩
theorem v_X8_runAt : Cond.instanceMethod yX8_runAt ∈ lw_tbl ∧ Cond.selects yX8_runAt.cls yX8_runAt yX8_runAt ∈ lw_tbl ∧ 8 < 9 ∧ Rn 8 = yX8_runAt.cls := ⟨by decide +kernel, by decide +kernel, by decide, rfl⟩
theorem k_X8_135 : Cond.constant RX8 135 (1000000) ∈ lw_tbl := by decide +kernel
theorem m_X8_136 : Cond.methodLink RX8 136 Lib.Math.max.name ∈ lw_tbl := by decide +kernel
theorem f_X8_139 : fL RX8 139 8 11 := ⟨by decide, by decide, Or.inl (by decide +kernel)⟩
theorem f_X8_142 : fL RX8 142 8 10 := ⟨by decide, by decide, Or.inl (by decide +kernel)⟩
theorem c_X8_145 : cL RX8 145 yX8_takes cX8_takes 9 (some .boolean) 4 := ⟨Or.inl (by decide +kernel), by decide +kernel, by decide +kernel, by decide +kernel, by decide +kernel, by decide +kernel⟩
theorem v_X8_takes : Cond.instanceMethod yX8_takes ∈ lw_tbl ∧ Cond.selects yX8_takes.cls yX8_takes yX8_takes ∈ lw_tbl ∧ 8 < 9 ∧ Rn 8 = yX8_takes.cls := ⟨by decide +kernel, by decide +kernel, by decide, rfl⟩
theorem c_X8_149 : cL RX8 149 yX8_adds cX8_adds 4 none 2 := ⟨Or.inl (by decide +kernel), by decide +kernel, by decide +kernel, by decide +kernel, by decide +kernel, by decide +kernel⟩
theorem v_X8_adds : Cond.instanceMethod yX8_adds ∈ lw_tbl ∧ Cond.selects yX8_adds.cls yX8_adds yX8_adds ∈ lw_tbl ∧ 8 < 9 ∧ Rn 8 = yX8_adds.cls := ⟨by decide +kernel, by decide +kernel, by decide, rfl⟩
theorem c_X8_153 : cL RX8 153 yX8_makes cX8_makes 9 none 2 := ⟨Or.inl (by decide +kernel), by decide +kernel, by decide +kernel, by decide +kernel, by decide +kernel, by decide +kernel⟩
theorem v_X8_makes : Cond.instanceMethod yX8_makes ∈ lw_tbl ∧ Cond.selects yX8_makes.cls yX8_makes yX8_makes ∈ lw_tbl ∧ 8 < 9 ∧ Rn 8 = yX8_makes.cls := ⟨by decide +kernel, by decide +kernel, by decide, rfl⟩
theorem f_X8_156 : fL RX8 156 8 20 := ⟨by decide, by decide, Or.inl (by decide +kernel)⟩
theorem c_X8_159 : cL RX8 159 yX8_keeps cX8_keeps 6 (some .int) 2 := ⟨Or.inl (by decide +kernel), by decide +kernel, by decide +kernel, by decide +kernel, by decide +kernel, by decide +kernel⟩
theorem v_X8_keeps : Cond.instanceMethod yX8_keeps ∈ lw_tbl ∧ Cond.selects yX8_keeps.cls yX8_keeps yX8_keeps ∈ lw_tbl ∧ 8 < 9 ∧ Rn 8 = yX8_keeps.cls := ⟨by decide +kernel, by decide +kernel, by decide, rfl⟩
theorem f_X8_163 : fL RX8 163 8 24 := ⟨by decide, by decide, Or.inl (by decide +kernel)⟩
theorem f_X8_166 : fL RX8 166 8 29 := ⟨by decide, by decide, Or.inl (by decide +kernel)⟩
theorem f_X8_170 : fL RX8 170 8 30 := ⟨by decide, by decide, Or.inl (by decide +kernel)⟩
theorem f_X8_173 : fL RX8 173 8 27 := ⟨by decide, by decide, Or.inl (by decide +kernel)⟩
theorem f_X8_176 : fL RX8 176 8 28 := ⟨by decide, by decide, Or.inl (by decide +kernel)⟩
theorem c_X8_179 : cL RX8 179 yX8_checkOfArea cX8_checkOfArea 3 (some .int) 0 := ⟨Or.inl (by decide +kernel), by decide +kernel, by decide +kernel, by decide +kernel, by decide +kernel, by decide +kernel⟩
theorem v_X8_checkOfArea : Cond.instanceMethod yX8_checkOfArea ∈ lw_tbl ∧ Cond.selects yX8_checkOfArea.cls yX8_checkOfArea yX8_checkOfArea ∈ lw_tbl ∧ 8 < 9 ∧ Rn 8 = yX8_checkOfArea.cls := ⟨by decide +kernel, by decide +kernel, by decide, rfl⟩
theorem c_X8_183 : cL RX8 183 yX8_check cX8_check 4 (some .int) 1 := ⟨Or.inl (by decide +kernel), by decide +kernel, by decide +kernel, by decide +kernel, by decide +kernel, by decide +kernel⟩
theorem v_X8_check : Cond.instanceMethod yX8_check ∈ lw_tbl ∧ Cond.selects yX8_check.cls yX8_check yX8_check ∈ lw_tbl ∧ 8 < 9 ∧ Rn 8 = yX8_check.cls := ⟨by decide +kernel, by decide +kernel, by decide, rfl⟩
theorem f_X8_187 : fL RX8 187 8 31 := ⟨by decide, by decide, Or.inl (by decide +kernel)⟩
theorem f_X8_190 : fL RX8 190 8 26 := ⟨by decide, by decide, Or.inl (by decide +kernel)⟩
theorem c_X8_193 : cL RX8 193 yX8_allWrites cX8_allWrites 1 (some .int) 0 := ⟨Or.inl (by decide +kernel), by decide +kernel, by decide +kernel, by decide +kernel, by decide +kernel, by decide +kernel⟩
theorem v_X8_allWrites : Cond.instanceMethod yX8_allWrites ∈ lw_tbl ∧ Cond.selects yX8_allWrites.cls yX8_allWrites yX8_allWrites ∈ lw_tbl ∧ 8 < 9 ∧ Rn 8 = yX8_allWrites.cls := ⟨by decide +kernel, by decide +kernel, by decide, rfl⟩
theorem f_X8_196 : fL RX8 196 8 25 := ⟨by decide, by decide, Or.inl (by decide +kernel)⟩
theorem c_X8_199 : cL RX8 199 yX8_writeOne cX8_writeOne 5 none 1 := ⟨Or.inl (by decide +kernel), by decide +kernel, by decide +kernel, by decide +kernel, by decide +kernel, by decide +kernel⟩
theorem v_X8_writeOne : Cond.instanceMethod yX8_writeOne ∈ lw_tbl ∧ Cond.selects yX8_writeOne.cls yX8_writeOne yX8_writeOne ∈ lw_tbl ∧ 8 < 9 ∧ Rn 8 = yX8_writeOne.cls := ⟨by decide +kernel, by decide +kernel, by decide, rfl⟩
theorem c_X8_202 : cL RX8 202 yX8_pair cX8_pair 2 (some .int) 2 := ⟨Or.inl (by decide +kernel), by decide +kernel, by decide +kernel, by decide +kernel, by decide +kernel, by decide +kernel⟩
theorem s_X8_pair : Cond.static yX8_pair ∈ lw_tbl := by decide +kernel
theorem c_X8_205 : cL RX8 205 yX8_cost cX8_cost 3 (some .int) 2 := ⟨Or.inl (by decide +kernel), by decide +kernel, by decide +kernel, by decide +kernel, by decide +kernel, by decide +kernel⟩
theorem v_X8_cost : Cond.instanceMethod yX8_cost ∈ lw_tbl ∧ Cond.selects yX8_cost.cls yX8_cost yX8_cost ∈ lw_tbl ∧ 8 < 9 ∧ Rn 8 = yX8_cost.cls := ⟨by decide +kernel, by decide +kernel, by decide, rfl⟩
theorem c_X8_208 : cL RX8 208 yX8_greatest cX8_greatest 3 (some .int) 0 := ⟨Or.inl (by decide +kernel), by decide +kernel, by decide +kernel, by decide +kernel, by decide +kernel, by decide +kernel⟩
theorem v_X8_greatest : Cond.instanceMethod yX8_greatest ∈ lw_tbl ∧ Cond.selects yX8_greatest.cls yX8_greatest yX8_greatest ∈ lw_tbl ∧ 8 < 9 ∧ Rn 8 = yX8_greatest.cls := ⟨by decide +kernel, by decide +kernel, by decide, rfl⟩
theorem c_X8_211 : cL RX8 211 yX8_pairCosts cX8_pairCosts 3 none 0 := ⟨Or.inl (by decide +kernel), by decide +kernel, by decide +kernel, by decide +kernel, by decide +kernel, by decide +kernel⟩
theorem v_X8_pairCosts : Cond.instanceMethod yX8_pairCosts ∈ lw_tbl ∧ Cond.selects yX8_pairCosts.cls yX8_pairCosts yX8_pairCosts ∈ lw_tbl ∧ 8 < 9 ∧ Rn 8 = yX8_pairCosts.cls := ⟨by decide +kernel, by decide +kernel, by decide, rfl⟩
theorem c_X8_214 : cL RX8 214 yX8_sentBy cX8_sentBy 6 (some .int) 1 := ⟨Or.inl (by decide +kernel), by decide +kernel, by decide +kernel, by decide +kernel, by decide +kernel, by decide +kernel⟩
theorem v_X8_sentBy : Cond.instanceMethod yX8_sentBy ∈ lw_tbl ∧ Cond.selects yX8_sentBy.cls yX8_sentBy yX8_sentBy ∈ lw_tbl ∧ 8 < 9 ∧ Rn 8 = yX8_sentBy.cls := ⟨by decide +kernel, by decide +kernel, by decide, rfl⟩
theorem c_X8_217 : cL RX8 217 yX8_pairsIn cX8_pairsIn 3 (some .int) 1 := ⟨Or.inl (by decide +kernel), by decide +kernel, by decide +kernel, by decide +kernel, by decide +kernel, by decide +kernel⟩
theorem s_X8_pairsIn : Cond.static yX8_pairsIn ∈ lw_tbl := by decide +kernel
theorem c_X8_220 : cL RX8 220 yX8_isLess cX8_isLess 4 (some .boolean) 2 := ⟨Or.inl (by decide +kernel), by decide +kernel, by decide +kernel, by decide +kernel, by decide +kernel, by decide +kernel⟩
theorem s_X8_isLess : Cond.static yX8_isLess ∈ lw_tbl := by decide +kernel
theorem o_X0_3 : Cond.methodLink RX0 3 objectInit ∈ lw_tbl := by decide +kernel
theorem m_X0_9 : Cond.methodLink RX0 9 Lib.Math.max.name ∈ lw_tbl := by decide +kernel
theorem f_X0_15 : fL RX0 15 0 0 := ⟨by decide, by decide, Or.inl (by decide +kernel)⟩
theorem p_X0_15 : (Tn 0 0).2.2.2 = true ∧ "<init>" = "<init>" ∧ (Tn 0 0).1 = RX0 ∧ Cond.fieldLink RX0 15 (Tn 0 0).1 (Tn 0 0).2.1 (Tn 0 0).2.2.1 ∈ lw_tbl := ⟨rfl, rfl, rfl, by decide +kernel⟩
theorem f_X0_21 : fL RX0 21 0 1 := ⟨by decide, by decide, Or.inl (by decide +kernel)⟩
theorem m_X0_25 : Cond.methodLink RX0 25 Lib.Math.min.name ∈ lw_tbl := by decide +kernel
theorem a_X0_28 : Cond.methodLink RX0 28 arraycopyName ∈ lw_tbl := by decide +kernel
theorem k_X0_34 : Cond.constant RX0 34 (65521) ∈ lw_tbl := by decide +kernel
theorem o_X1_3 : Cond.methodLink RX1 3 objectInit ∈ lw_tbl := by decide +kernel
theorem n_X1_9 : Cond.classLink RX1 9 (Rn 0) ∈ lw_tbl ∧ Cond.instantiable (Rn 0) (cN 0) ∈ lw_tbl ∧ Cond.initialized (Rn 0) ∈ lw_tbl := ⟨by decide +kernel, by decide +kernel, by decide +kernel⟩
theorem c_X1_11 : cL RX1 11 yX0_init cX0_init 2 none 1 := ⟨Or.inl (by decide +kernel), by decide +kernel, by decide +kernel, by decide +kernel, by decide +kernel, by decide +kernel⟩
theorem f_X1_14 : fL RX1 14 1 0 := ⟨by decide, by decide, Or.inl (by decide +kernel)⟩
theorem p_X1_14 : (Tn 1 0).2.2.2 = true ∧ "<init>" = "<init>" ∧ (Tn 1 0).1 = RX1 ∧ Cond.fieldLink RX1 14 (Tn 1 0).1 (Tn 1 0).2.1 (Tn 1 0).2.2.1 ∈ lw_tbl := ⟨rfl, rfl, rfl, by decide +kernel⟩
theorem n_X1_20 : Cond.classLink RX1 20 (Rn 6) ∈ lw_tbl ∧ Cond.instantiable (Rn 6) (cN 6) ∈ lw_tbl ∧ Cond.initialized (Rn 6) ∈ lw_tbl := ⟨by decide +kernel, by decide +kernel, by decide +kernel⟩
theorem c_X1_22 : cL RX1 22 yX6_init cX6_init 1 none 0 := ⟨Or.inr (by decide +kernel), by decide +kernel, by decide +kernel, by decide +kernel, by decide +kernel, by decide +kernel⟩
theorem f_X1_23 : fL RX1 23 1 1 := ⟨by decide, by decide, Or.inl (by decide +kernel)⟩
theorem p_X1_23 : (Tn 1 1).2.2.2 = true ∧ "<init>" = "<init>" ∧ (Tn 1 1).1 = RX1 ∧ Cond.fieldLink RX1 23 (Tn 1 1).1 (Tn 1 1).2.1 (Tn 1 1).2.2.1 ∈ lw_tbl := ⟨rfl, rfl, rfl, by decide +kernel⟩
theorem f_X1_27 : fL RX1 27 1 2 := ⟨by decide, by decide, Or.inl (by decide +kernel)⟩
theorem p_X1_27 : (Tn 1 2).2.2.2 = true ∧ "<init>" = "<init>" ∧ (Tn 1 2).1 = RX1 ∧ Cond.fieldLink RX1 27 (Tn 1 2).1 (Tn 1 2).2.1 (Tn 1 2).2.2.1 ∈ lw_tbl := ⟨rfl, rfl, rfl, by decide +kernel⟩
theorem f_X1_31 : fL RX1 31 1 3 := ⟨by decide, by decide, Or.inl (by decide +kernel)⟩
theorem p_X1_31 : (Tn 1 3).2.2.2 = true ∧ "<init>" = "<init>" ∧ (Tn 1 3).1 = RX1 ∧ Cond.fieldLink RX1 31 (Tn 1 3).1 (Tn 1 3).2.1 (Tn 1 3).2.2.1 ∈ lw_tbl := ⟨rfl, rfl, rfl, by decide +kernel⟩
theorem f_X1_34 : fL RX1 34 0 1 := ⟨by decide, by decide, Or.inr (by decide +kernel)⟩
theorem c_X1_38 : cL RX1 38 yX0_takeFirst cX0_takeFirst 5 none 2 := ⟨Or.inl (by decide +kernel), by decide +kernel, by decide +kernel, by decide +kernel, by decide +kernel, by decide +kernel⟩
theorem v_X0_takeFirst : Cond.instanceMethod yX0_takeFirst ∈ lw_tbl ∧ Cond.selects yX0_takeFirst.cls yX0_takeFirst yX0_takeFirst ∈ lw_tbl ∧ 0 < 9 ∧ Rn 0 = yX0_takeFirst.cls := ⟨by decide +kernel, by decide +kernel, by decide, rfl⟩
theorem c_X1_42 : cL RX1 42 yX1_endUpdate cX1_endUpdate 1 none 0 := ⟨Or.inl (by decide +kernel), by decide +kernel, by decide +kernel, by decide +kernel, by decide +kernel, by decide +kernel⟩
theorem v_X1_endUpdate : Cond.instanceMethod yX1_endUpdate ∈ lw_tbl ∧ Cond.selects yX1_endUpdate.cls yX1_endUpdate yX1_endUpdate ∈ lw_tbl ∧ 1 < 9 ∧ Rn 1 = yX1_endUpdate.cls := ⟨by decide +kernel, by decide +kernel, by decide, rfl⟩
theorem c_X1_45 : cL RX1 45 yX0_checksum cX0_checksum 3 (some .int) 0 := ⟨Or.inl (by decide +kernel), by decide +kernel, by decide +kernel, by decide +kernel, by decide +kernel, by decide +kernel⟩
theorem c_X1_49 : cL RX1 49 yX6_take cX6_take 2 none 1 := ⟨Or.inl (by decide +kernel), by decide +kernel, by decide +kernel, by decide +kernel, by decide +kernel, by decide +kernel⟩
theorem v_X6_take : Cond.instanceMethod yX6_take ∈ lw_tbl ∧ Cond.selects yX6_take.cls yX6_take yX6_take ∈ lw_tbl ∧ 6 < 9 ∧ Rn 6 = yX6_take.cls := ⟨by decide +kernel, by decide +kernel, by decide, rfl⟩
theorem c_X1_53 : cL RX1 53 yX6_countKept cX6_countKept 5 (some .int) 1 := ⟨Or.inl (by decide +kernel), by decide +kernel, by decide +kernel, by decide +kernel, by decide +kernel, by decide +kernel⟩
theorem f_X1_57 : fL RX1 57 1 5 := ⟨by decide, by decide, Or.inl (by decide +kernel)⟩
theorem f_X1_60 : fL RX1 60 1 4 := ⟨by decide, by decide, Or.inl (by decide +kernel)⟩
theorem c_X1_63 : cL RX1 63 yX6_isKept cX6_isKept 2 (some .boolean) 1 := ⟨Or.inl (by decide +kernel), by decide +kernel, by decide +kernel, by decide +kernel, by decide +kernel, by decide +kernel⟩
theorem v_X6_isKept : Cond.instanceMethod yX6_isKept ∈ lw_tbl ∧ Cond.selects yX6_isKept.cls yX6_isKept yX6_isKept ∈ lw_tbl ∧ 6 < 9 ∧ Rn 6 = yX6_isKept.cls := ⟨by decide +kernel, by decide +kernel, by decide, rfl⟩
theorem f_X1_67 : fL RX1 67 1 6 := ⟨by decide, by decide, Or.inl (by decide +kernel)⟩
theorem f_X1_70 : fL RX1 70 1 7 := ⟨by decide, by decide, Or.inl (by decide +kernel)⟩
theorem f_X1_73 : fL RX1 73 1 9 := ⟨by decide, by decide, Or.inl (by decide +kernel)⟩
theorem f_X1_77 : fL RX1 77 1 10 := ⟨by decide, by decide, Or.inl (by decide +kernel)⟩
theorem f_X1_80 : fL RX1 80 6 3 := ⟨by decide, by decide, Or.inr (by decide +kernel)⟩
theorem c_X1_81 : cL RX1 81 yX1_allWrites cX1_allWrites 1 (some .int) 0 := ⟨Or.inl (by decide +kernel), by decide +kernel, by decide +kernel, by decide +kernel, by decide +kernel, by decide +kernel⟩
theorem v_X1_allWrites : Cond.instanceMethod yX1_allWrites ∈ lw_tbl ∧ Cond.selects yX1_allWrites.cls yX1_allWrites yX1_allWrites ∈ lw_tbl ∧ 1 < 9 ∧ Rn 1 = yX1_allWrites.cls := ⟨by decide +kernel, by decide +kernel, by decide, rfl⟩
theorem c_X1_84 : cL RX1 84 yX1_makeNextWrite cX1_makeNextWrite 3 none 0 := ⟨Or.inl (by decide +kernel), by decide +kernel, by decide +kernel, by decide +kernel, by decide +kernel, by decide +kernel⟩
theorem v_X1_makeNextWrite : Cond.instanceMethod yX1_makeNextWrite ∈ lw_tbl ∧ Cond.selects yX1_makeNextWrite.cls yX1_makeNextWrite yX1_makeNextWrite ∈ lw_tbl ∧ 1 < 9 ∧ Rn 1 = yX1_makeNextWrite.cls := ⟨by decide +kernel, by decide +kernel, by decide, rfl⟩
theorem f_X1_87 : fL RX1 87 1 8 := ⟨by decide, by decide, Or.inl (by decide +kernel)⟩
theorem f_X1_90 : fL RX1 90 0 0 := ⟨by decide, by decide, Or.inr (by decide +kernel)⟩
theorem c_X1_93 : cL RX1 93 yX1_writeNewByte cX1_writeNewByte 3 none 1 := ⟨Or.inl (by decide +kernel), by decide +kernel, by decide +kernel, by decide +kernel, by decide +kernel, by decide +kernel⟩
theorem v_X1_writeNewByte : Cond.instanceMethod yX1_writeNewByte ∈ lw_tbl ∧ Cond.selects yX1_writeNewByte.cls yX1_writeNewByte yX1_writeNewByte ∈ lw_tbl ∧ 1 < 9 ∧ Rn 1 = yX1_writeNewByte.cls := ⟨by decide +kernel, by decide +kernel, by decide, rfl⟩
theorem f_X1_96 : fL RX1 96 6 0 := ⟨by decide, by decide, Or.inr (by decide +kernel)⟩
theorem c_X1_99 : cL RX1 99 yX1_oldByte cX1_oldByte 2 (some .int) 1 := ⟨Or.inl (by decide +kernel), by decide +kernel, by decide +kernel, by decide +kernel, by decide +kernel, by decide +kernel⟩
theorem v_X1_oldByte : Cond.instanceMethod yX1_oldByte ∈ lw_tbl ∧ Cond.selects yX1_oldByte.cls yX1_oldByte yX1_oldByte ∈ lw_tbl ∧ 1 < 9 ∧ Rn 1 = yX1_oldByte.cls := ⟨by decide +kernel, by decide +kernel, by decide, rfl⟩
theorem f_X1_102 : fL RX1 102 6 1 := ⟨by decide, by decide, Or.inr (by decide +kernel)⟩
theorem m_X1_105 : Cond.methodLink RX1 105 Lib.Math.min.name ∈ lw_tbl := by decide +kernel
theorem o_X2_3 : Cond.methodLink RX2 3 objectInit ∈ lw_tbl := by decide +kernel
theorem f_X2_9 : fL RX2 9 2 0 := ⟨by decide, by decide, Or.inl (by decide +kernel)⟩
theorem p_X2_9 : (Tn 2 0).2.2.2 = true ∧ "<init>" = "<init>" ∧ (Tn 2 0).1 = RX2 ∧ Cond.fieldLink RX2 9 (Tn 2 0).1 (Tn 2 0).2.1 (Tn 2 0).2.2.1 ∈ lw_tbl := ⟨rfl, rfl, rfl, by decide +kernel⟩
theorem f_X2_15 : fL RX2 15 2 1 := ⟨by decide, by decide, Or.inl (by decide +kernel)⟩
theorem p_X2_15 : (Tn 2 1).2.2.2 = true ∧ "<init>" = "<init>" ∧ (Tn 2 1).1 = RX2 ∧ Cond.fieldLink RX2 15 (Tn 2 1).1 (Tn 2 1).2.1 (Tn 2 1).2.2.1 ∈ lw_tbl := ⟨rfl, rfl, rfl, by decide +kernel⟩
theorem f_X2_18 : fL RX2 18 2 2 := ⟨by decide, by decide, Or.inl (by decide +kernel)⟩
theorem p_X2_18 : (Tn 2 2).2.2.2 = true ∧ "<init>" = "<init>" ∧ (Tn 2 2).1 = RX2 ∧ Cond.fieldLink RX2 18 (Tn 2 2).1 (Tn 2 2).2.1 (Tn 2 2).2.2.1 ∈ lw_tbl := ⟨rfl, rfl, rfl, by decide +kernel⟩
theorem c_X2_21 : cL RX2 21 yX2_bitOf cX2_bitOf 3 (some .int) 2 := ⟨Or.inl (by decide +kernel), by decide +kernel, by decide +kernel, by decide +kernel, by decide +kernel, by decide +kernel⟩
theorem s_X2_bitOf : Cond.static yX2_bitOf ∈ lw_tbl := by decide +kernel
theorem f_X2_25 : fL RX2 25 2 3 := ⟨by decide, by decide, Or.inl (by decide +kernel)⟩
theorem g_X2_29 : Cond.fieldLinkNest RX2 29 "PatchBench" "PAIR_FROM" "[I" "PatchBench" ∈ lw_tbl := by decide +kernel
theorem g_X2_32 : Cond.fieldLinkNest RX2 32 "PatchBench" "PAIR_TO" "[I" "PatchBench" ∈ lw_tbl := by decide +kernel
theorem c_X2_35 : cL RX2 35 yX5_greatest cX5_greatest 2 (some .int) 0 := ⟨Or.inl (by decide +kernel), by decide +kernel, by decide +kernel, by decide +kernel, by decide +kernel, by decide +kernel⟩
theorem f_X2_41 : fL RX2 41 2 4 := ⟨by decide, by decide, Or.inl (by decide +kernel)⟩
theorem c_X2_44 : cL RX2 44 yX5_bytesOf cX5_bytesOf 2 (some (.object "PatchBench$Bytes")) 1 := ⟨Or.inl (by decide +kernel), by decide +kernel, by decide +kernel, by decide +kernel, by decide +kernel, by decide +kernel⟩
theorem f_X2_48 : fL RX2 48 0 1 := ⟨by decide, by decide, Or.inr (by decide +kernel)⟩
theorem f_X2_53 : fL RX2 53 2 5 := ⟨by decide, by decide, Or.inl (by decide +kernel)⟩
theorem c_X2_56 : cL RX2 56 yX5_priceOf cX5_priceOf 3 (some .int) 2 := ⟨Or.inl (by decide +kernel), by decide +kernel, by decide +kernel, by decide +kernel, by decide +kernel, by decide +kernel⟩
theorem m_X2_59 : Cond.methodLink RX2 59 Lib.Math.min.name ∈ lw_tbl := by decide +kernel
theorem c_X2_64 : cL RX2 64 yX2_sentWith cX2_sentWith 4 (some .int) 1 := ⟨Or.inl (by decide +kernel), by decide +kernel, by decide +kernel, by decide +kernel, by decide +kernel, by decide +kernel⟩
theorem f_X2_68 : fL RX2 68 2 6 := ⟨by decide, by decide, Or.inl (by decide +kernel)⟩
theorem f_X2_71 : fL RX2 71 2 7 := ⟨by decide, by decide, Or.inl (by decide +kernel)⟩
theorem c_X2_74 : cL RX2 74 yX2_chooseOfSize cX2_chooseOfSize 6 none 1 := ⟨Or.inl (by decide +kernel), by decide +kernel, by decide +kernel, by decide +kernel, by decide +kernel, by decide +kernel⟩
theorem v_X2_chooseOfSize : Cond.instanceMethod yX2_chooseOfSize ∈ lw_tbl ∧ Cond.selects yX2_chooseOfSize.cls yX2_chooseOfSize yX2_chooseOfSize ∈ lw_tbl ∧ 2 < 9 ∧ Rn 2 = yX2_chooseOfSize.cls := ⟨by decide +kernel, by decide +kernel, by decide, rfl⟩
theorem c_X2_78 : cL RX2 78 yX2_consider cX2_consider 3 none 1 := ⟨Or.inl (by decide +kernel), by decide +kernel, by decide +kernel, by decide +kernel, by decide +kernel, by decide +kernel⟩
theorem v_X2_consider : Cond.instanceMethod yX2_consider ∈ lw_tbl ∧ Cond.selects yX2_consider.cls yX2_consider yX2_consider ∈ lw_tbl ∧ 2 < 9 ∧ Rn 2 = yX2_consider.cls := ⟨by decide +kernel, by decide +kernel, by decide, rfl⟩
theorem o_X3_3 : Cond.methodLink RX3 3 objectInit ∈ lw_tbl := by decide +kernel
theorem f_X3_9 : fL RX3 9 3 0 := ⟨by decide, by decide, Or.inl (by decide +kernel)⟩
theorem p_X3_9 : (Tn 3 0).2.2.2 = true ∧ "<init>" = "<init>" ∧ (Tn 3 0).1 = RX3 ∧ Cond.fieldLink RX3 9 (Tn 3 0).1 (Tn 3 0).2.1 (Tn 3 0).2.2.1 ∈ lw_tbl := ⟨rfl, rfl, rfl, by decide +kernel⟩
theorem f_X3_15 : fL RX3 15 3 1 := ⟨by decide, by decide, Or.inl (by decide +kernel)⟩
theorem p_X3_15 : (Tn 3 1).2.2.2 = true ∧ "<init>" = "<init>" ∧ (Tn 3 1).1 = RX3 ∧ Cond.fieldLink RX3 15 (Tn 3 1).1 (Tn 3 1).2.1 (Tn 3 1).2.2.1 ∈ lw_tbl := ⟨rfl, rfl, rfl, by decide +kernel⟩
theorem f_X3_18 : fL RX3 18 3 2 := ⟨by decide, by decide, Or.inl (by decide +kernel)⟩
theorem p_X3_18 : (Tn 3 2).2.2.2 = true ∧ "<init>" = "<init>" ∧ (Tn 3 2).1 = RX3 ∧ Cond.fieldLink RX3 18 (Tn 3 2).1 (Tn 3 2).2.1 (Tn 3 2).2.2.1 ∈ lw_tbl := ⟨rfl, rfl, rfl, by decide +kernel⟩
theorem f_X3_21 : fL RX3 21 3 3 := ⟨by decide, by decide, Or.inl (by decide +kernel)⟩
theorem p_X3_21 : (Tn 3 3).2.2.2 = true ∧ "<init>" = "<init>" ∧ (Tn 3 3).1 = RX3 ∧ Cond.fieldLink RX3 21 (Tn 3 3).1 (Tn 3 3).2.1 (Tn 3 3).2.2.1 ∈ lw_tbl := ⟨rfl, rfl, rfl, by decide +kernel⟩
theorem f_X3_24 : fL RX3 24 3 4 := ⟨by decide, by decide, Or.inl (by decide +kernel)⟩
theorem f_X3_28 : fL RX3 28 3 5 := ⟨by decide, by decide, Or.inl (by decide +kernel)⟩
theorem c_X3_31 : cL RX3 31 yX7_stepPrice cX7_stepPrice 2 (some .int) 2 := ⟨Or.inr (by decide +kernel), by decide +kernel, by decide +kernel, by decide +kernel, by decide +kernel, by decide +kernel⟩
theorem s_X7_stepPrice : Cond.static yX7_stepPrice ∈ lw_tbl := by decide +kernel
theorem o_X4_3 : Cond.methodLink RX4 3 objectInit ∈ lw_tbl := by decide +kernel
theorem f_X4_9 : fL RX4 9 4 0 := ⟨by decide, by decide, Or.inl (by decide +kernel)⟩
theorem p_X4_9 : (Tn 4 0).2.2.2 = true ∧ "<init>" = "<init>" ∧ (Tn 4 0).1 = RX4 ∧ Cond.fieldLink RX4 9 (Tn 4 0).1 (Tn 4 0).2.1 (Tn 4 0).2.2.1 ∈ lw_tbl := ⟨rfl, rfl, rfl, by decide +kernel⟩
theorem f_X4_15 : fL RX4 15 4 1 := ⟨by decide, by decide, Or.inl (by decide +kernel)⟩
theorem p_X4_15 : (Tn 4 1).2.2.2 = true ∧ "<init>" = "<init>" ∧ (Tn 4 1).1 = RX4 ∧ Cond.fieldLink RX4 15 (Tn 4 1).1 (Tn 4 1).2.1 (Tn 4 1).2.2.1 ∈ lw_tbl := ⟨rfl, rfl, rfl, by decide +kernel⟩
theorem f_X4_18 : fL RX4 18 4 2 := ⟨by decide, by decide, Or.inl (by decide +kernel)⟩
theorem p_X4_18 : (Tn 4 2).2.2.2 = true ∧ "<init>" = "<init>" ∧ (Tn 4 2).1 = RX4 ∧ Cond.fieldLink RX4 18 (Tn 4 2).1 (Tn 4 2).2.1 (Tn 4 2).2.2.1 ∈ lw_tbl := ⟨rfl, rfl, rfl, by decide +kernel⟩
theorem f_X4_21 : fL RX4 21 4 3 := ⟨by decide, by decide, Or.inl (by decide +kernel)⟩
theorem p_X4_21 : (Tn 4 3).2.2.2 = true ∧ "<init>" = "<init>" ∧ (Tn 4 3).1 = RX4 ∧ Cond.fieldLink RX4 21 (Tn 4 3).1 (Tn 4 3).2.1 (Tn 4 3).2.2.1 ∈ lw_tbl := ⟨rfl, rfl, rfl, by decide +kernel⟩
theorem f_X4_24 : fL RX4 24 4 4 := ⟨by decide, by decide, Or.inl (by decide +kernel)⟩
theorem p_X4_24 : (Tn 4 4).2.2.2 = true ∧ "<init>" = "<init>" ∧ (Tn 4 4).1 = RX4 ∧ Cond.fieldLink RX4 24 (Tn 4 4).1 (Tn 4 4).2.1 (Tn 4 4).2.2.1 ∈ lw_tbl := ⟨rfl, rfl, rfl, by decide +kernel⟩
theorem f_X4_27 : fL RX4 27 4 5 := ⟨by decide, by decide, Or.inl (by decide +kernel)⟩
theorem p_X4_27 : (Tn 4 5).2.2.2 = true ∧ "<init>" = "<init>" ∧ (Tn 4 5).1 = RX4 ∧ Cond.fieldLink RX4 27 (Tn 4 5).1 (Tn 4 5).2.1 (Tn 4 5).2.2.1 ∈ lw_tbl := ⟨rfl, rfl, rfl, by decide +kernel⟩
theorem f_X4_30 : fL RX4 30 4 6 := ⟨by decide, by decide, Or.inl (by decide +kernel)⟩
theorem p_X4_30 : (Tn 4 6).2.2.2 = true ∧ "<init>" = "<init>" ∧ (Tn 4 6).1 = RX4 ∧ Cond.fieldLink RX4 30 (Tn 4 6).1 (Tn 4 6).2.1 (Tn 4 6).2.2.1 ∈ lw_tbl := ⟨rfl, rfl, rfl, by decide +kernel⟩
theorem f_X4_33 : fL RX4 33 0 1 := ⟨by decide, by decide, Or.inr (by decide +kernel)⟩
theorem c_X4_39 : cL RX4 39 yX4_findRuns cX4_findRuns 10 none 3 := ⟨Or.inl (by decide +kernel), by decide +kernel, by decide +kernel, by decide +kernel, by decide +kernel, by decide +kernel⟩
theorem v_X4_findRuns : Cond.instanceMethod yX4_findRuns ∈ lw_tbl ∧ Cond.selects yX4_findRuns.cls yX4_findRuns yX4_findRuns ∈ lw_tbl ∧ 4 < 9 ∧ Rn 4 = yX4_findRuns.cls := ⟨by decide +kernel, by decide +kernel, by decide, rfl⟩
theorem c_X4_43 : cL RX4 43 yX4_chooseStep cX4_chooseStep 5 none 2 := ⟨Or.inl (by decide +kernel), by decide +kernel, by decide +kernel, by decide +kernel, by decide +kernel, by decide +kernel⟩
theorem v_X4_chooseStep : Cond.instanceMethod yX4_chooseStep ∈ lw_tbl ∧ Cond.selects yX4_chooseStep.cls yX4_chooseStep yX4_chooseStep ∈ lw_tbl ∧ 4 < 9 ∧ Rn 4 = yX4_chooseStep.cls := ⟨by decide +kernel, by decide +kernel, by decide, rfl⟩
theorem c_X4_47 : cL RX4 47 yX3_clear cX3_clear 1 none 0 := ⟨Or.inl (by decide +kernel), by decide +kernel, by decide +kernel, by decide +kernel, by decide +kernel, by decide +kernel⟩
theorem v_X3_clear : Cond.instanceMethod yX3_clear ∈ lw_tbl ∧ Cond.selects yX3_clear.cls yX3_clear yX3_clear ∈ lw_tbl ∧ 3 < 9 ∧ Rn 3 = yX3_clear.cls := ⟨by decide +kernel, by decide +kernel, by decide, rfl⟩
theorem c_X4_52 : cL RX4 52 yX3_append cX3_append 5 none 4 := ⟨Or.inl (by decide +kernel), by decide +kernel, by decide +kernel, by decide +kernel, by decide +kernel, by decide +kernel⟩
theorem v_X3_append : Cond.instanceMethod yX3_append ∈ lw_tbl ∧ Cond.selects yX3_append.cls yX3_append yX3_append ∈ lw_tbl ∧ 3 < 9 ∧ Rn 3 = yX3_append.cls := ⟨by decide +kernel, by decide +kernel, by decide, rfl⟩
theorem f_X4_56 : fL RX4 56 0 0 := ⟨by decide, by decide, Or.inr (by decide +kernel)⟩
theorem f_X4_59 : fL RX4 59 4 7 := ⟨by decide, by decide, Or.inl (by decide +kernel)⟩
theorem f_X4_62 : fL RX4 62 4 9 := ⟨by decide, by decide, Or.inl (by decide +kernel)⟩
theorem f_X4_65 : fL RX4 65 4 8 := ⟨by decide, by decide, Or.inl (by decide +kernel)⟩
theorem f_X4_68 : fL RX4 68 4 10 := ⟨by decide, by decide, Or.inl (by decide +kernel)⟩
theorem k_X4_71 : Cond.constant RX4 71 (1000000) ∈ lw_tbl := by decide +kernel
theorem m_X4_72 : Cond.methodLink RX4 72 Lib.Math.min.name ∈ lw_tbl := by decide +kernel
theorem c_X4_78 : cL RX4 78 yX4_tryStep cX4_tryStep 7 none 5 := ⟨Or.inl (by decide +kernel), by decide +kernel, by decide +kernel, by decide +kernel, by decide +kernel, by decide +kernel⟩
theorem v_X4_tryStep : Cond.instanceMethod yX4_tryStep ∈ lw_tbl ∧ Cond.selects yX4_tryStep.cls yX4_tryStep yX4_tryStep ∈ lw_tbl ∧ 4 < 9 ∧ Rn 4 = yX4_tryStep.cls := ⟨by decide +kernel, by decide +kernel, by decide, rfl⟩
theorem c_X4_82 : cL RX4 82 yX7_stepPrice cX7_stepPrice 2 (some .int) 2 := ⟨Or.inr (by decide +kernel), by decide +kernel, by decide +kernel, by decide +kernel, by decide +kernel, by decide +kernel⟩
theorem o_X5_3 : Cond.methodLink RX5 3 objectInit ∈ lw_tbl := by decide +kernel
theorem q_X5_9 : Cond.classLink RX5 9 (Rn 0) ∈ lw_tbl ∧ Cond.arrayOver (.object (Rn 0)) ∈ lw_tbl := ⟨by decide +kernel, by decide +kernel⟩
theorem f_X5_11 : fL RX5 11 5 0 := ⟨by decide, by decide, Or.inl (by decide +kernel)⟩
theorem p_X5_11 : (Tn 5 0).2.2.2 = true ∧ "<init>" = "<init>" ∧ (Tn 5 0).1 = RX5 ∧ Cond.fieldLink RX5 11 (Tn 5 0).1 (Tn 5 0).2.1 (Tn 5 0).2.2.1 ∈ lw_tbl := ⟨rfl, rfl, rfl, by decide +kernel⟩
theorem q_X5_17 : Cond.classLink RX5 17 (Rn 3) ∈ lw_tbl ∧ Cond.arrayOver (.object (Rn 3)) ∈ lw_tbl := ⟨by decide +kernel, by decide +kernel⟩
theorem f_X5_19 : fL RX5 19 5 1 := ⟨by decide, by decide, Or.inl (by decide +kernel)⟩
theorem p_X5_19 : (Tn 5 1).2.2.2 = true ∧ "<init>" = "<init>" ∧ (Tn 5 1).1 = RX5 ∧ Cond.fieldLink RX5 19 (Tn 5 1).1 (Tn 5 1).2.1 (Tn 5 1).2.2.1 ∈ lw_tbl := ⟨rfl, rfl, rfl, by decide +kernel⟩
theorem f_X5_23 : fL RX5 23 5 2 := ⟨by decide, by decide, Or.inl (by decide +kernel)⟩
theorem p_X5_23 : (Tn 5 2).2.2.2 = true ∧ "<init>" = "<init>" ∧ (Tn 5 2).1 = RX5 ∧ Cond.fieldLink RX5 23 (Tn 5 2).1 (Tn 5 2).2.1 (Tn 5 2).2.2.1 ∈ lw_tbl := ⟨rfl, rfl, rfl, by decide +kernel⟩
theorem n_X5_27 : Cond.classLink RX5 27 (Rn 4) ∈ lw_tbl ∧ Cond.instantiable (Rn 4) (cN 4) ∈ lw_tbl ∧ Cond.initialized (Rn 4) ∈ lw_tbl := ⟨by decide +kernel, by decide +kernel, by decide +kernel⟩
theorem c_X5_29 : cL RX5 29 yX4_init cX4_init 1 none 0 := ⟨Or.inr (by decide +kernel), by decide +kernel, by decide +kernel, by decide +kernel, by decide +kernel, by decide +kernel⟩
theorem i_X4_init : Cond.instanceMethod yX4_init ∈ lw_tbl ∧ yX4_init.name = "<init>" := ⟨by decide +kernel, rfl⟩
theorem f_X5_30 : fL RX5 30 5 3 := ⟨by decide, by decide, Or.inl (by decide +kernel)⟩
theorem p_X5_30 : (Tn 5 3).2.2.2 = true ∧ "<init>" = "<init>" ∧ (Tn 5 3).1 = RX5 ∧ Cond.fieldLink RX5 30 (Tn 5 3).1 (Tn 5 3).2.1 (Tn 5 3).2.2.1 ∈ lw_tbl := ⟨rfl, rfl, rfl, by decide +kernel⟩
theorem n_X5_9 : Cond.classLink RX5 9 (Rn 0) ∈ lw_tbl ∧ Cond.instantiable (Rn 0) (cN 0) ∈ lw_tbl ∧ Cond.initialized (Rn 0) ∈ lw_tbl := ⟨by decide +kernel, by decide +kernel, by decide +kernel⟩
theorem c_X5_34 : cL RX5 34 yX0_init cX0_init 2 none 1 := ⟨Or.inl (by decide +kernel), by decide +kernel, by decide +kernel, by decide +kernel, by decide +kernel, by decide +kernel⟩
theorem f_X5_37 : fL RX5 37 0 1 := ⟨by decide, by decide, Or.inr (by decide +kernel)⟩
theorem c_X5_41 : cL RX5 41 yX5_has cX5_has 2 (some .boolean) 1 := ⟨Or.inl (by decide +kernel), by decide +kernel, by decide +kernel, by decide +kernel, by decide +kernel, by decide +kernel⟩
theorem c_X5_45 : cL RX5 45 yX0_takeFirst cX0_takeFirst 5 none 2 := ⟨Or.inl (by decide +kernel), by decide +kernel, by decide +kernel, by decide +kernel, by decide +kernel, by decide +kernel⟩
theorem n_X5_17 : Cond.classLink RX5 17 (Rn 3) ∈ lw_tbl ∧ Cond.instantiable (Rn 3) (cN 3) ∈ lw_tbl ∧ Cond.initialized (Rn 3) ∈ lw_tbl := ⟨by decide +kernel, by decide +kernel, by decide +kernel⟩
theorem c_X5_49 : cL RX5 49 yX3_init cX3_init 1 none 0 := ⟨Or.inr (by decide +kernel), by decide +kernel, by decide +kernel, by decide +kernel, by decide +kernel, by decide +kernel⟩
theorem c_X5_50 : cL RX5 50 yX4_plan cX4_plan 6 none 3 := ⟨Or.inl (by decide +kernel), by decide +kernel, by decide +kernel, by decide +kernel, by decide +kernel, by decide +kernel⟩
theorem v_X4_plan : Cond.instanceMethod yX4_plan ∈ lw_tbl ∧ Cond.selects yX4_plan.cls yX4_plan yX4_plan ∈ lw_tbl ∧ 4 < 9 ∧ Rn 4 = yX4_plan.cls := ⟨by decide +kernel, by decide +kernel, by decide, rfl⟩
theorem c_X5_54 : cL RX5 54 yX5_patchOf cX5_patchOf 4 (some (.object "PatchBench$Patch")) 2 := ⟨Or.inl (by decide +kernel), by decide +kernel, by decide +kernel, by decide +kernel, by decide +kernel, by decide +kernel⟩
theorem f_X5_58 : fL RX5 58 3 5 := ⟨by decide, by decide, Or.inr (by decide +kernel)⟩
theorem o_X6_3 : Cond.methodLink RX6 3 objectInit ∈ lw_tbl := by decide +kernel
theorem f_X6_9 : fL RX6 9 6 0 := ⟨by decide, by decide, Or.inl (by decide +kernel)⟩
theorem p_X6_9 : (Tn 6 0).2.2.2 = true ∧ "<init>" = "<init>" ∧ (Tn 6 0).1 = RX6 ∧ Cond.fieldLink RX6 9 (Tn 6 0).1 (Tn 6 0).2.1 (Tn 6 0).2.2.1 ∈ lw_tbl := ⟨rfl, rfl, rfl, by decide +kernel⟩
theorem f_X6_15 : fL RX6 15 6 1 := ⟨by decide, by decide, Or.inl (by decide +kernel)⟩
theorem p_X6_15 : (Tn 6 1).2.2.2 = true ∧ "<init>" = "<init>" ∧ (Tn 6 1).1 = RX6 ∧ Cond.fieldLink RX6 15 (Tn 6 1).1 (Tn 6 1).2.1 (Tn 6 1).2.2.1 ∈ lw_tbl := ⟨rfl, rfl, rfl, by decide +kernel⟩
theorem f_X6_18 : fL RX6 18 6 2 := ⟨by decide, by decide, Or.inl (by decide +kernel)⟩
theorem p_X6_18 : (Tn 6 2).2.2.2 = true ∧ "<init>" = "<init>" ∧ (Tn 6 2).1 = RX6 ∧ Cond.fieldLink RX6 18 (Tn 6 2).1 (Tn 6 2).2.1 (Tn 6 2).2.2.1 ∈ lw_tbl := ⟨rfl, rfl, rfl, by decide +kernel⟩
theorem f_X6_22 : fL RX6 22 6 3 := ⟨by decide, by decide, Or.inl (by decide +kernel)⟩
theorem f_X6_26 : fL RX6 26 3 4 := ⟨by decide, by decide, Or.inr (by decide +kernel)⟩
theorem f_X6_31 : fL RX6 31 3 0 := ⟨by decide, by decide, Or.inr (by decide +kernel)⟩
theorem f_X6_34 : fL RX6 34 3 1 := ⟨by decide, by decide, Or.inr (by decide +kernel)⟩
theorem f_X6_37 : fL RX6 37 3 2 := ⟨by decide, by decide, Or.inr (by decide +kernel)⟩
theorem c_X6_38 : cL RX6 38 yX0_at cX0_at 2 (some .int) 1 := ⟨Or.inl (by decide +kernel), by decide +kernel, by decide +kernel, by decide +kernel, by decide +kernel, by decide +kernel⟩
theorem f_X6_44 : fL RX6 44 3 3 := ⟨by decide, by decide, Or.inr (by decide +kernel)⟩
theorem a_X6_47 : Cond.methodLink RX6 47 arraycopyName ∈ lw_tbl := by decide +kernel
theorem c_X6_53 : cL RX6 53 yX3_clear cX3_clear 1 none 0 := ⟨Or.inl (by decide +kernel), by decide +kernel, by decide +kernel, by decide +kernel, by decide +kernel, by decide +kernel⟩
theorem c_X6_56 : cL RX6 56 yX6_addedFrom cX6_addedFrom 3 (some .int) 1 := ⟨Or.inl (by decide +kernel), by decide +kernel, by decide +kernel, by decide +kernel, by decide +kernel, by decide +kernel⟩
theorem v_X6_addedFrom : Cond.instanceMethod yX6_addedFrom ∈ lw_tbl ∧ Cond.selects yX6_addedFrom.cls yX6_addedFrom yX6_addedFrom ∈ lw_tbl ∧ 6 < 9 ∧ Rn 6 = yX6_addedFrom.cls := ⟨by decide +kernel, by decide +kernel, by decide, rfl⟩
theorem c_X6_59 : cL RX6 59 yX6_alikeFrom cX6_alikeFrom 3 (some .int) 1 := ⟨Or.inl (by decide +kernel), by decide +kernel, by decide +kernel, by decide +kernel, by decide +kernel, by decide +kernel⟩
theorem v_X6_alikeFrom : Cond.instanceMethod yX6_alikeFrom ∈ lw_tbl ∧ Cond.selects yX6_alikeFrom.cls yX6_alikeFrom yX6_alikeFrom ∈ lw_tbl ∧ 6 < 9 ∧ Rn 6 = yX6_alikeFrom.cls := ⟨by decide +kernel, by decide +kernel, by decide, rfl⟩
theorem c_X6_62 : cL RX6 62 yX3_append cX3_append 5 none 4 := ⟨Or.inl (by decide +kernel), by decide +kernel, by decide +kernel, by decide +kernel, by decide +kernel, by decide +kernel⟩
theorem c_X6_66 : cL RX6 66 yX6_comesTooLate cX6_comesTooLate 4 (some .boolean) 3 := ⟨Or.inl (by decide +kernel), by decide +kernel, by decide +kernel, by decide +kernel, by decide +kernel, by decide +kernel⟩
theorem v_X6_comesTooLate : Cond.instanceMethod yX6_comesTooLate ∈ lw_tbl ∧ Cond.selects yX6_comesTooLate.cls yX6_comesTooLate yX6_comesTooLate ∈ lw_tbl ∧ 6 < 9 ∧ Rn 6 = yX6_comesTooLate.cls := ⟨by decide +kernel, by decide +kernel, by decide, rfl⟩
theorem n_L_7 : Cond.classLink RL 7 (Rn 7) ∈ lw_tbl ∧ Cond.instantiable (Rn 7) (cN 7) ∈ lw_tbl ∧ Cond.initialized (Rn 7) ∈ lw_tbl := ⟨by decide +kernel, by decide +kernel, by decide +kernel⟩
theorem c_L_9 : cL RL 9 yX7_init cX7_init 1 none 0 := ⟨Or.inl (by decide +kernel), by decide +kernel, by decide +kernel, by decide +kernel, by decide +kernel, by decide +kernel⟩
theorem i_X7_init : Cond.instanceMethod yX7_init ∈ lw_tbl ∧ yX7_init.name = "<init>" := ⟨by decide +kernel, rfl⟩
theorem n_L_10 : Cond.classLink RL 10 (Rn 8) ∈ lw_tbl ∧ Cond.instantiable (Rn 8) (cN 8) ∈ lw_tbl ∧ Cond.initialized (Rn 8) ∈ lw_tbl := ⟨by decide +kernel, by decide +kernel, by decide +kernel⟩
theorem c_L_12 : cL RL 12 yX8_init cX8_init 1 none 0 := ⟨Or.inl (by decide +kernel), by decide +kernel, by decide +kernel, by decide +kernel, by decide +kernel, by decide +kernel⟩
theorem i_X8_init : Cond.instanceMethod yX8_init ∈ lw_tbl ∧ yX8_init.name = "<init>" := ⟨by decide +kernel, rfl⟩
theorem c_L_13 : cL RL 13 yX7_feed cX7_feed 6 (some .int) 5 := ⟨Or.inl (by decide +kernel), by decide +kernel, by decide +kernel, by decide +kernel, by decide +kernel, by decide +kernel⟩
theorem v_X7_feed : Cond.instanceMethod yX7_feed ∈ lw_tbl ∧ Cond.selects yX7_feed.cls yX7_feed yX7_feed ∈ lw_tbl ∧ 7 < 9 ∧ Rn 7 = yX7_feed.cls := ⟨by decide +kernel, by decide +kernel, by decide, rfl⟩
theorem c_L_17 : cL RL 17 yX8_feed cX8_feed 6 (some .int) 5 := ⟨Or.inl (by decide +kernel), by decide +kernel, by decide +kernel, by decide +kernel, by decide +kernel, by decide +kernel⟩
theorem v_X8_feed : Cond.instanceMethod yX8_feed ∈ lw_tbl ∧ Cond.selects yX8_feed.cls yX8_feed yX8_feed ∈ lw_tbl ∧ 8 < 9 ∧ Rn 8 = yX8_feed.cls := ⟨by decide +kernel, by decide +kernel, by decide, rfl⟩
theorem c_L_18 : cL RL 18 yX7_version cX7_version 3 (some .int) 2 := ⟨Or.inl (by decide +kernel), by decide +kernel, by decide +kernel, by decide +kernel, by decide +kernel, by decide +kernel⟩
theorem v_X7_version : Cond.instanceMethod yX7_version ∈ lw_tbl ∧ Cond.selects yX7_version.cls yX7_version yX7_version ∈ lw_tbl ∧ 7 < 9 ∧ Rn 7 = yX7_version.cls := ⟨by decide +kernel, by decide +kernel, by decide, rfl⟩
theorem c_L_22 : cL RL 22 yX8_version cX8_version 4 (some .int) 2 := ⟨Or.inl (by decide +kernel), by decide +kernel, by decide +kernel, by decide +kernel, by decide +kernel, by decide +kernel⟩
theorem v_X8_version : Cond.instanceMethod yX8_version ∈ lw_tbl ∧ Cond.selects yX8_version.cls yX8_version yX8_version ∈ lw_tbl ∧ 8 < 9 ∧ Rn 8 = yX8_version.cls := ⟨by decide +kernel, by decide +kernel, by decide, rfl⟩
theorem c_L_23 : cL RL 23 yX7_told cX7_told 4 (some .int) 2 := ⟨Or.inl (by decide +kernel), by decide +kernel, by decide +kernel, by decide +kernel, by decide +kernel, by decide +kernel⟩
theorem v_X7_told : Cond.instanceMethod yX7_told ∈ lw_tbl ∧ Cond.selects yX7_told.cls yX7_told yX7_told ∈ lw_tbl ∧ 7 < 9 ∧ Rn 7 = yX7_told.cls := ⟨by decide +kernel, by decide +kernel, by decide, rfl⟩
theorem c_L_26 : cL RL 26 yX8_told cX8_told 3 (some .int) 2 := ⟨Or.inl (by decide +kernel), by decide +kernel, by decide +kernel, by decide +kernel, by decide +kernel, by decide +kernel⟩
theorem v_X8_told : Cond.instanceMethod yX8_told ∈ lw_tbl ∧ Cond.selects yX8_told.cls yX8_told yX8_told ∈ lw_tbl ∧ 8 < 9 ∧ Rn 8 = yX8_told.cls := ⟨by decide +kernel, by decide +kernel, by decide, rfl⟩
theorem c_L_27 : cL RL 27 yX7_check cX7_check 2 (some .int) 1 := ⟨Or.inl (by decide +kernel), by decide +kernel, by decide +kernel, by decide +kernel, by decide +kernel, by decide +kernel⟩
theorem v_X7_check : Cond.instanceMethod yX7_check ∈ lw_tbl ∧ Cond.selects yX7_check.cls yX7_check yX7_check ∈ lw_tbl ∧ 7 < 9 ∧ Rn 7 = yX7_check.cls := ⟨by decide +kernel, by decide +kernel, by decide, rfl⟩
theorem c_L_31 : cL RL 31 yX8_check cX8_check 4 (some .int) 1 := ⟨Or.inl (by decide +kernel), by decide +kernel, by decide +kernel, by decide +kernel, by decide +kernel, by decide +kernel⟩
theorem c_L_32 : cL RL 32 yX7_cost cX7_cost 3 (some .int) 2 := ⟨Or.inl (by decide +kernel), by decide +kernel, by decide +kernel, by decide +kernel, by decide +kernel, by decide +kernel⟩
theorem v_X7_cost : Cond.instanceMethod yX7_cost ∈ lw_tbl ∧ Cond.selects yX7_cost.cls yX7_cost yX7_cost ∈ lw_tbl ∧ 7 < 9 ∧ Rn 7 = yX7_cost.cls := ⟨by decide +kernel, by decide +kernel, by decide, rfl⟩
theorem c_L_35 : cL RL 35 yX8_cost cX8_cost 3 (some .int) 2 := ⟨Or.inl (by decide +kernel), by decide +kernel, by decide +kernel, by decide +kernel, by decide +kernel, by decide +kernel⟩
theorem c_L_36 : cL RL 36 yX7_step cX7_step 5 (some .int) 4 := ⟨Or.inl (by decide +kernel), by decide +kernel, by decide +kernel, by decide +kernel, by decide +kernel, by decide +kernel⟩
theorem v_X7_step : Cond.instanceMethod yX7_step ∈ lw_tbl ∧ Cond.selects yX7_step.cls yX7_step yX7_step ∈ lw_tbl ∧ 7 < 9 ∧ Rn 7 = yX7_step.cls := ⟨by decide +kernel, by decide +kernel, by decide, rfl⟩
theorem c_L_40 : cL RL 40 yX8_step cX8_step 5 (some .int) 4 := ⟨Or.inl (by decide +kernel), by decide +kernel, by decide +kernel, by decide +kernel, by decide +kernel, by decide +kernel⟩
theorem v_X8_step : Cond.instanceMethod yX8_step ∈ lw_tbl ∧ Cond.selects yX8_step.cls yX8_step yX8_step ∈ lw_tbl ∧ 8 < 9 ∧ Rn 8 = yX8_step.cls := ⟨by decide +kernel, by decide +kernel, by decide, rfl⟩
theorem c_L_41 : cL RL 41 yX7_melt cX7_melt 4 (some .int) 3 := ⟨Or.inl (by decide +kernel), by decide +kernel, by decide +kernel, by decide +kernel, by decide +kernel, by decide +kernel⟩
theorem v_X7_melt : Cond.instanceMethod yX7_melt ∈ lw_tbl ∧ Cond.selects yX7_melt.cls yX7_melt yX7_melt ∈ lw_tbl ∧ 7 < 9 ∧ Rn 7 = yX7_melt.cls := ⟨by decide +kernel, by decide +kernel, by decide, rfl⟩
theorem c_L_45 : cL RL 45 yX8_melt cX8_melt 9 (some .int) 3 := ⟨Or.inl (by decide +kernel), by decide +kernel, by decide +kernel, by decide +kernel, by decide +kernel, by decide +kernel⟩
theorem v_X8_melt : Cond.instanceMethod yX8_melt ∈ lw_tbl ∧ Cond.selects yX8_melt.cls yX8_melt yX8_melt ∈ lw_tbl ∧ 8 < 9 ∧ Rn 8 = yX8_melt.cls := ⟨by decide +kernel, by decide +kernel, by decide, rfl⟩
theorem c_L_46 : cL RL 46 yX7_melted cX7_melted 3 (some .int) 2 := ⟨Or.inl (by decide +kernel), by decide +kernel, by decide +kernel, by decide +kernel, by decide +kernel, by decide +kernel⟩
theorem v_X7_melted : Cond.instanceMethod yX7_melted ∈ lw_tbl ∧ Cond.selects yX7_melted.cls yX7_melted yX7_melted ∈ lw_tbl ∧ 7 < 9 ∧ Rn 7 = yX7_melted.cls := ⟨by decide +kernel, by decide +kernel, by decide, rfl⟩
theorem c_L_49 : cL RL 49 yX8_melted cX8_melted 3 (some .int) 2 := ⟨Or.inl (by decide +kernel), by decide +kernel, by decide +kernel, by decide +kernel, by decide +kernel, by decide +kernel⟩
theorem v_X8_melted : Cond.instanceMethod yX8_melted ∈ lw_tbl ∧ Cond.selects yX8_melted.cls yX8_melted yX8_melted ∈ lw_tbl ∧ 8 < 9 ∧ Rn 8 = yX8_melted.cls := ⟨by decide +kernel, by decide +kernel, by decide, rfl⟩
theorem c_L_50 : cL RL 50 yX7_room cX7_room 4 (some .int) 3 := ⟨Or.inl (by decide +kernel), by decide +kernel, by decide +kernel, by decide +kernel, by decide +kernel, by decide +kernel⟩
theorem v_X7_room : Cond.instanceMethod yX7_room ∈ lw_tbl ∧ Cond.selects yX7_room.cls yX7_room yX7_room ∈ lw_tbl ∧ 7 < 9 ∧ Rn 7 = yX7_room.cls := ⟨by decide +kernel, by decide +kernel, by decide, rfl⟩
theorem c_L_53 : cL RL 53 yX8_room cX8_room 6 (some .int) 3 := ⟨Or.inl (by decide +kernel), by decide +kernel, by decide +kernel, by decide +kernel, by decide +kernel, by decide +kernel⟩
theorem v_X8_room : Cond.instanceMethod yX8_room ∈ lw_tbl ∧ Cond.selects yX8_room.cls yX8_room yX8_room ∈ lw_tbl ∧ 8 < 9 ∧ Rn 8 = yX8_room.cls := ⟨by decide +kernel, by decide +kernel, by decide, rfl⟩
theorem c_L_54 : cL RL 54 yX7_install cX7_install 2 (some .boolean) 1 := ⟨Or.inl (by decide +kernel), by decide +kernel, by decide +kernel, by decide +kernel, by decide +kernel, by decide +kernel⟩
theorem v_X7_install : Cond.instanceMethod yX7_install ∈ lw_tbl ∧ Cond.selects yX7_install.cls yX7_install yX7_install ∈ lw_tbl ∧ 7 < 9 ∧ Rn 7 = yX7_install.cls := ⟨by decide +kernel, by decide +kernel, by decide, rfl⟩
theorem c_L_58 : cL RL 58 yX8_install cX8_install 3 (some .boolean) 1 := ⟨Or.inl (by decide +kernel), by decide +kernel, by decide +kernel, by decide +kernel, by decide +kernel, by decide +kernel⟩
theorem v_X8_install : Cond.instanceMethod yX8_install ∈ lw_tbl ∧ Cond.selects yX8_install.cls yX8_install yX8_install ∈ lw_tbl ∧ 8 < 9 ∧ Rn 8 = yX8_install.cls := ⟨by decide +kernel, by decide +kernel, by decide, rfl⟩
theorem c_L_59 : cL RL 59 yX7_update cX7_update 3 (some .int) 2 := ⟨Or.inl (by decide +kernel), by decide +kernel, by decide +kernel, by decide +kernel, by decide +kernel, by decide +kernel⟩
theorem v_X7_update : Cond.instanceMethod yX7_update ∈ lw_tbl ∧ Cond.selects yX7_update.cls yX7_update yX7_update ∈ lw_tbl ∧ 7 < 9 ∧ Rn 7 = yX7_update.cls := ⟨by decide +kernel, by decide +kernel, by decide, rfl⟩
theorem c_L_62 : cL RL 62 yX8_update cX8_update 6 (some .int) 2 := ⟨Or.inl (by decide +kernel), by decide +kernel, by decide +kernel, by decide +kernel, by decide +kernel, by decide +kernel⟩
theorem v_X8_update : Cond.instanceMethod yX8_update ∈ lw_tbl ∧ Cond.selects yX8_update.cls yX8_update yX8_update ∈ lw_tbl ∧ 8 < 9 ∧ Rn 8 = yX8_update.cls := ⟨by decide +kernel, by decide +kernel, by decide, rfl⟩
theorem c_L_63 : cL RL 63 yX7_write cX7_write 2 (some .int) 1 := ⟨Or.inl (by decide +kernel), by decide +kernel, by decide +kernel, by decide +kernel, by decide +kernel, by decide +kernel⟩
theorem v_X7_write : Cond.instanceMethod yX7_write ∈ lw_tbl ∧ Cond.selects yX7_write.cls yX7_write yX7_write ∈ lw_tbl ∧ 7 < 9 ∧ Rn 7 = yX7_write.cls := ⟨by decide +kernel, by decide +kernel, by decide, rfl⟩
theorem c_L_66 : cL RL 66 yX8_write cX8_write 3 (some .int) 1 := ⟨Or.inl (by decide +kernel), by decide +kernel, by decide +kernel, by decide +kernel, by decide +kernel, by decide +kernel⟩
theorem v_X8_write : Cond.instanceMethod yX8_write ∈ lw_tbl ∧ Cond.selects yX8_write.cls yX8_write yX8_write ∈ lw_tbl ∧ 8 < 9 ∧ Rn 8 = yX8_write.cls := ⟨by decide +kernel, by decide +kernel, by decide, rfl⟩
theorem c_L_67 : cL RL 67 yX7_cut cX7_cut 1 (some .boolean) 0 := ⟨Or.inl (by decide +kernel), by decide +kernel, by decide +kernel, by decide +kernel, by decide +kernel, by decide +kernel⟩
theorem v_X7_cut : Cond.instanceMethod yX7_cut ∈ lw_tbl ∧ Cond.selects yX7_cut.cls yX7_cut yX7_cut ∈ lw_tbl ∧ 7 < 9 ∧ Rn 7 = yX7_cut.cls := ⟨by decide +kernel, by decide +kernel, by decide, rfl⟩
theorem c_L_71 : cL RL 71 yX8_cut cX8_cut 1 (some .boolean) 0 := ⟨Or.inl (by decide +kernel), by decide +kernel, by decide +kernel, by decide +kernel, by decide +kernel, by decide +kernel⟩
theorem v_X8_cut : Cond.instanceMethod yX8_cut ∈ lw_tbl ∧ Cond.selects yX8_cut.cls yX8_cut yX8_cut ∈ lw_tbl ∧ 8 < 9 ∧ Rn 8 = yX8_cut.cls := ⟨by decide +kernel, by decide +kernel, by decide, rfl⟩
theorem c_L_72 : cL RL 72 yX7_on cX7_on 1 (some .int) 0 := ⟨Or.inl (by decide +kernel), by decide +kernel, by decide +kernel, by decide +kernel, by decide +kernel, by decide +kernel⟩
theorem v_X7_on : Cond.instanceMethod yX7_on ∈ lw_tbl ∧ Cond.selects yX7_on.cls yX7_on yX7_on ∈ lw_tbl ∧ 7 < 9 ∧ Rn 7 = yX7_on.cls := ⟨by decide +kernel, by decide +kernel, by decide, rfl⟩
theorem c_L_76 : cL RL 76 yX8_on cX8_on 1 (some .int) 0 := ⟨Or.inl (by decide +kernel), by decide +kernel, by decide +kernel, by decide +kernel, by decide +kernel, by decide +kernel⟩
theorem v_X8_on : Cond.instanceMethod yX8_on ∈ lw_tbl ∧ Cond.selects yX8_on.cls yX8_on yX8_on ∈ lw_tbl ∧ 8 < 9 ∧ Rn 8 = yX8_on.cls := ⟨by decide +kernel, by decide +kernel, by decide, rfl⟩
theorem c_L_77 : cL RL 77 yX7_device cX7_device 2 (some .int) 1 := ⟨Or.inl (by decide +kernel), by decide +kernel, by decide +kernel, by decide +kernel, by decide +kernel, by decide +kernel⟩
theorem v_X7_device : Cond.instanceMethod yX7_device ∈ lw_tbl ∧ Cond.selects yX7_device.cls yX7_device yX7_device ∈ lw_tbl ∧ 7 < 9 ∧ Rn 7 = yX7_device.cls := ⟨by decide +kernel, by decide +kernel, by decide, rfl⟩
theorem c_L_80 : cL RL 80 yX8_device cX8_device 2 (some .int) 1 := ⟨Or.inl (by decide +kernel), by decide +kernel, by decide +kernel, by decide +kernel, by decide +kernel, by decide +kernel⟩
theorem v_X8_device : Cond.instanceMethod yX8_device ∈ lw_tbl ∧ Cond.selects yX8_device.cls yX8_device yX8_device ∈ lw_tbl ∧ 8 < 9 ∧ Rn 8 = yX8_device.cls := ⟨by decide +kernel, by decide +kernel, by decide, rfl⟩
theorem c_L_81 : cL RL 81 yX7_fleet cX7_fleet 3 (some .boolean) 2 := ⟨Or.inl (by decide +kernel), by decide +kernel, by decide +kernel, by decide +kernel, by decide +kernel, by decide +kernel⟩
theorem v_X7_fleet : Cond.instanceMethod yX7_fleet ∈ lw_tbl ∧ Cond.selects yX7_fleet.cls yX7_fleet yX7_fleet ∈ lw_tbl ∧ 7 < 9 ∧ Rn 7 = yX7_fleet.cls := ⟨by decide +kernel, by decide +kernel, by decide, rfl⟩
theorem c_L_85 : cL RL 85 yX8_fleet cX8_fleet 3 (some .boolean) 2 := ⟨Or.inl (by decide +kernel), by decide +kernel, by decide +kernel, by decide +kernel, by decide +kernel, by decide +kernel⟩
theorem v_X8_fleet : Cond.instanceMethod yX8_fleet ∈ lw_tbl ∧ Cond.selects yX8_fleet.cls yX8_fleet yX8_fleet ∈ lw_tbl ∧ 8 < 9 ∧ Rn 8 = yX8_fleet.cls := ⟨by decide +kernel, by decide +kernel, by decide, rfl⟩
theorem c_L_86 : cL RL 86 yX7_hold cX7_hold 4 (some .boolean) 3 := ⟨Or.inl (by decide +kernel), by decide +kernel, by decide +kernel, by decide +kernel, by decide +kernel, by decide +kernel⟩
theorem v_X7_hold : Cond.instanceMethod yX7_hold ∈ lw_tbl ∧ Cond.selects yX7_hold.cls yX7_hold yX7_hold ∈ lw_tbl ∧ 7 < 9 ∧ Rn 7 = yX7_hold.cls := ⟨by decide +kernel, by decide +kernel, by decide, rfl⟩
theorem c_L_90 : cL RL 90 yX8_hold cX8_hold 4 (some .boolean) 3 := ⟨Or.inl (by decide +kernel), by decide +kernel, by decide +kernel, by decide +kernel, by decide +kernel, by decide +kernel⟩
theorem v_X8_hold : Cond.instanceMethod yX8_hold ∈ lw_tbl ∧ Cond.selects yX8_hold.cls yX8_hold yX8_hold ∈ lw_tbl ∧ 8 < 9 ∧ Rn 8 = yX8_hold.cls := ⟨by decide +kernel, by decide +kernel, by decide, rfl⟩
theorem c_L_91 : cL RL 91 yX7_sent cX7_sent 1 (some .int) 0 := ⟨Or.inl (by decide +kernel), by decide +kernel, by decide +kernel, by decide +kernel, by decide +kernel, by decide +kernel⟩
theorem v_X7_sent : Cond.instanceMethod yX7_sent ∈ lw_tbl ∧ Cond.selects yX7_sent.cls yX7_sent yX7_sent ∈ lw_tbl ∧ 7 < 9 ∧ Rn 7 = yX7_sent.cls := ⟨by decide +kernel, by decide +kernel, by decide, rfl⟩
theorem c_L_94 : cL RL 94 yX8_sent cX8_sent 3 (some .int) 0 := ⟨Or.inl (by decide +kernel), by decide +kernel, by decide +kernel, by decide +kernel, by decide +kernel, by decide +kernel⟩
theorem v_X8_sent : Cond.instanceMethod yX8_sent ∈ lw_tbl ∧ Cond.selects yX8_sent.cls yX8_sent yX8_sent ∈ lw_tbl ∧ 8 < 9 ∧ Rn 8 = yX8_sent.cls := ⟨by decide +kernel, by decide +kernel, by decide, rfl⟩
theorem c_L_95 : cL RL 95 yX7_best cX7_best 3 (some .int) 2 := ⟨Or.inl (by decide +kernel), by decide +kernel, by decide +kernel, by decide +kernel, by decide +kernel, by decide +kernel⟩
theorem v_X7_best : Cond.instanceMethod yX7_best ∈ lw_tbl ∧ Cond.selects yX7_best.cls yX7_best yX7_best ∈ lw_tbl ∧ 7 < 9 ∧ Rn 7 = yX7_best.cls := ⟨by decide +kernel, by decide +kernel, by decide, rfl⟩
theorem c_L_98 : cL RL 98 yX8_best cX8_best 10 (some .int) 2 := ⟨Or.inl (by decide +kernel), by decide +kernel, by decide +kernel, by decide +kernel, by decide +kernel, by decide +kernel⟩
theorem v_X8_best : Cond.instanceMethod yX8_best ∈ lw_tbl ∧ Cond.selects yX8_best.cls yX8_best yX8_best ∈ lw_tbl ∧ 8 < 9 ∧ Rn 8 = yX8_best.cls := ⟨by decide +kernel, by decide +kernel, by decide, rfl⟩
theorem aw_int : Cond.arrayClass (newarray.typeOf .int) ∈ lw_tbl := by decide +kernel
theorem aw_byte : Cond.arrayClass (newarray.typeOf .byte) ∈ lw_tbl := by decide +kernel
theorem aw_boolean : Cond.arrayClass (newarray.typeOf .boolean) ∈ lw_tbl := by decide +kernel
end
section
def CTp (y : MethodName) (cc : ByteArray) (nL : Nat) (ret : Option FieldType) (fr lo : Nat) (pa : List PV) (T L : Nat → Nat) (P : Nat → Nat → Option Nat) (I : Nat → Nat → Int) (hn : Nat) (v : PV) : Prop :=
  CT y cc nL ret fr lo 0 0 pa T L P I hn (fun r T' L' P' I' hn' => r = some v ∧ T' = T ∧ L' = L ∧ P' = P ∧ I' = I ∧ hn' = hn)
def CTi (y : MethodName) (cc : ByteArray) (nL : Nat) (ret : Option FieldType) (fr lo : Nat) (pa : List PV) (T L : Nat → Nat) (P : Nat → Nat → Option Nat) (I : Nat → Nat → Int) (hn : Nat) (q : Option PV → (Nat → Nat → Int) → Prop) : Prop :=
  CT y cc nL ret fr lo 0 0 pa T L P I hn (fun r T' L' P' I' hn' => T' = T ∧ L' = L ∧ P' = P ∧ hn' = hn ∧ q r I')
section CROW
variable {X : Cx} {Y : SY} {Q : State → Prop} {cells slots pc : Nat} {ls : List (Option PV)} {st : List PV} {T L : Nat → Nat} {P : Nat → Nat → Option Nat} {I : Nat → Nat → Int} {hn : Nat} {cc : ByteArray} {own : String} {nL : Nat} {ret : Option FieldType} {R : Room} {nm : String}
variable {y : MethodName} {cy : ByteArray} {ny : Nat} {ry : Option FieldType} {fr lo mc ms : Nat} {post : Po} {q : Option PV → (Nat → Nat → Int) → Prop} {idx b ci : Nat} {w : PV}
theorem rcV0p (K : OK X Y cc own nL ret R nm) (hd : decode cc pc = .ok (.invokevirtual idx, 3)) (hw : cL own idx y cy ny ry 0) (hw2 : Cond.instanceMethod y ∈ lw_tbl ∧ Cond.selects y.cls y y ∈ lw_tbl ∧ ci < 9 ∧ Rn ci = y.cls) (hT : T b = ci) (hM : CTp y cy ny ry fr lo (.inr (some b) :: []) T L P I hn w) (hR : fr + 1 ≤ R.frames ∧ 19 + ny + lo ≤ R.locals ∧ cells + 0 ≤ R.cells ∧ slots + 0 ≤ R.slots) (hst : st.length ≤ 8) (kk : RR X Y Q cells slots (pc + 3) ls (w :: st) T L P I hn) : RR X Y Q cells slots pc ls (.inr (some b) :: st) T L P I hn :=
  r_callV K [] hd hw hw2 rfl hT hM hR.1 hR.2.1 hR.2.2.1 hR.2.2.2 hst rfl (fun r T1 L1 P1 I1 n1 h => by obtain ⟨rfl, rfl, rfl, rfl, rfl, rfl⟩ := h; exact kk)
theorem rcV0i (K : OK X Y cc own nL ret R nm) (hd : decode cc pc = .ok (.invokevirtual idx, 3)) (hw : cL own idx y cy ny ry 0) (hw2 : Cond.instanceMethod y ∈ lw_tbl ∧ Cond.selects y.cls y y ∈ lw_tbl ∧ ci < 9 ∧ Rn ci = y.cls) (hT : T b = ci) (hM : CTi y cy ny ry fr lo (.inr (some b) :: []) T L P I hn q) (hR : fr + 1 ≤ R.frames ∧ 19 + ny + lo ≤ R.locals ∧ cells + 0 ≤ R.cells ∧ slots + 0 ≤ R.slots) (hst : st.length ≤ 8) (kk : ∀ (r : Option PV) (I1 : Nat → Nat → Int), q r I1 → RR X Y Q cells slots (pc + 3) ls (r.toList ++ st) T L P I1 hn) : RR X Y Q cells slots pc ls (.inr (some b) :: st) T L P I hn :=
  r_callV K [] hd hw hw2 rfl hT hM hR.1 hR.2.1 hR.2.2.1 hR.2.2.2 hst rfl (fun r T1 L1 P1 I1 n1 h => by obtain ⟨rfl, rfl, rfl, rfl, h⟩ := h; exact kk r I1 h)
theorem rcV0g (K : OK X Y cc own nL ret R nm) (hd : decode cc pc = .ok (.invokevirtual idx, 3)) (hw : cL own idx y cy ny ry 0) (hw2 : Cond.instanceMethod y ∈ lw_tbl ∧ Cond.selects y.cls y y ∈ lw_tbl ∧ ci < 9 ∧ Rn ci = y.cls) (hT : T b = ci) (hM : CT y cy ny ry fr lo mc ms (.inr (some b) :: []) T L P I hn post) (hR : fr + 1 ≤ R.frames ∧ 19 + ny + lo ≤ R.locals ∧ cells + mc ≤ R.cells ∧ slots + ms ≤ R.slots) (hst : st.length ≤ 8) (kk : ∀ (r : Option PV) (T L : Nat → Nat) (P : Nat → Nat → Option Nat) (I : Nat → Nat → Int) (hn : Nat), post r T L P I hn → RR X Y Q (cells + mc) (slots + ms) (pc + 3) ls (r.toList ++ st) T L P I hn) : RR X Y Q cells slots pc ls (.inr (some b) :: st) T L P I hn :=
  r_callV K [] hd hw hw2 rfl hT hM hR.1 hR.2.1 hR.2.2.1 hR.2.2.2 hst rfl kk
theorem rcV1p (K : OK X Y cc own nL ret R nm) {a1 : PV} (hd : decode cc pc = .ok (.invokevirtual idx, 3)) (hw : cL own idx y cy ny ry 1) (hw2 : Cond.instanceMethod y ∈ lw_tbl ∧ Cond.selects y.cls y y ∈ lw_tbl ∧ ci < 9 ∧ Rn ci = y.cls) (hT : T b = ci) (hM : CTp y cy ny ry fr lo (.inr (some b) :: [a1]) T L P I hn w) (hR : fr + 1 ≤ R.frames ∧ 19 + ny + lo ≤ R.locals ∧ cells + 0 ≤ R.cells ∧ slots + 0 ≤ R.slots) (hst : st.length ≤ 8) (kk : RR X Y Q cells slots (pc + 3) ls (w :: st) T L P I hn) : RR X Y Q cells slots pc ls (a1 :: .inr (some b) :: st) T L P I hn :=
  r_callV K [a1] hd hw hw2 rfl hT hM hR.1 hR.2.1 hR.2.2.1 hR.2.2.2 hst rfl (fun r T1 L1 P1 I1 n1 h => by obtain ⟨rfl, rfl, rfl, rfl, rfl, rfl⟩ := h; exact kk)
theorem rcV1i (K : OK X Y cc own nL ret R nm) {a1 : PV} (hd : decode cc pc = .ok (.invokevirtual idx, 3)) (hw : cL own idx y cy ny ry 1) (hw2 : Cond.instanceMethod y ∈ lw_tbl ∧ Cond.selects y.cls y y ∈ lw_tbl ∧ ci < 9 ∧ Rn ci = y.cls) (hT : T b = ci) (hM : CTi y cy ny ry fr lo (.inr (some b) :: [a1]) T L P I hn q) (hR : fr + 1 ≤ R.frames ∧ 19 + ny + lo ≤ R.locals ∧ cells + 0 ≤ R.cells ∧ slots + 0 ≤ R.slots) (hst : st.length ≤ 8) (kk : ∀ (r : Option PV) (I1 : Nat → Nat → Int), q r I1 → RR X Y Q cells slots (pc + 3) ls (r.toList ++ st) T L P I1 hn) : RR X Y Q cells slots pc ls (a1 :: .inr (some b) :: st) T L P I hn :=
  r_callV K [a1] hd hw hw2 rfl hT hM hR.1 hR.2.1 hR.2.2.1 hR.2.2.2 hst rfl (fun r T1 L1 P1 I1 n1 h => by obtain ⟨rfl, rfl, rfl, rfl, h⟩ := h; exact kk r I1 h)
theorem rcV1g (K : OK X Y cc own nL ret R nm) {a1 : PV} (hd : decode cc pc = .ok (.invokevirtual idx, 3)) (hw : cL own idx y cy ny ry 1) (hw2 : Cond.instanceMethod y ∈ lw_tbl ∧ Cond.selects y.cls y y ∈ lw_tbl ∧ ci < 9 ∧ Rn ci = y.cls) (hT : T b = ci) (hM : CT y cy ny ry fr lo mc ms (.inr (some b) :: [a1]) T L P I hn post) (hR : fr + 1 ≤ R.frames ∧ 19 + ny + lo ≤ R.locals ∧ cells + mc ≤ R.cells ∧ slots + ms ≤ R.slots) (hst : st.length ≤ 8) (kk : ∀ (r : Option PV) (T L : Nat → Nat) (P : Nat → Nat → Option Nat) (I : Nat → Nat → Int) (hn : Nat), post r T L P I hn → RR X Y Q (cells + mc) (slots + ms) (pc + 3) ls (r.toList ++ st) T L P I hn) : RR X Y Q cells slots pc ls (a1 :: .inr (some b) :: st) T L P I hn :=
  r_callV K [a1] hd hw hw2 rfl hT hM hR.1 hR.2.1 hR.2.2.1 hR.2.2.2 hst rfl kk
theorem rcV2p (K : OK X Y cc own nL ret R nm) {a1 a2 : PV} (hd : decode cc pc = .ok (.invokevirtual idx, 3)) (hw : cL own idx y cy ny ry 2) (hw2 : Cond.instanceMethod y ∈ lw_tbl ∧ Cond.selects y.cls y y ∈ lw_tbl ∧ ci < 9 ∧ Rn ci = y.cls) (hT : T b = ci) (hM : CTp y cy ny ry fr lo (.inr (some b) :: [a1, a2]) T L P I hn w) (hR : fr + 1 ≤ R.frames ∧ 19 + ny + lo ≤ R.locals ∧ cells + 0 ≤ R.cells ∧ slots + 0 ≤ R.slots) (hst : st.length ≤ 8) (kk : RR X Y Q cells slots (pc + 3) ls (w :: st) T L P I hn) : RR X Y Q cells slots pc ls (a2 :: a1 :: .inr (some b) :: st) T L P I hn :=
  r_callV K [a1, a2] hd hw hw2 rfl hT hM hR.1 hR.2.1 hR.2.2.1 hR.2.2.2 hst rfl (fun r T1 L1 P1 I1 n1 h => by obtain ⟨rfl, rfl, rfl, rfl, rfl, rfl⟩ := h; exact kk)
theorem rcV2i (K : OK X Y cc own nL ret R nm) {a1 a2 : PV} (hd : decode cc pc = .ok (.invokevirtual idx, 3)) (hw : cL own idx y cy ny ry 2) (hw2 : Cond.instanceMethod y ∈ lw_tbl ∧ Cond.selects y.cls y y ∈ lw_tbl ∧ ci < 9 ∧ Rn ci = y.cls) (hT : T b = ci) (hM : CTi y cy ny ry fr lo (.inr (some b) :: [a1, a2]) T L P I hn q) (hR : fr + 1 ≤ R.frames ∧ 19 + ny + lo ≤ R.locals ∧ cells + 0 ≤ R.cells ∧ slots + 0 ≤ R.slots) (hst : st.length ≤ 8) (kk : ∀ (r : Option PV) (I1 : Nat → Nat → Int), q r I1 → RR X Y Q cells slots (pc + 3) ls (r.toList ++ st) T L P I1 hn) : RR X Y Q cells slots pc ls (a2 :: a1 :: .inr (some b) :: st) T L P I hn :=
  r_callV K [a1, a2] hd hw hw2 rfl hT hM hR.1 hR.2.1 hR.2.2.1 hR.2.2.2 hst rfl (fun r T1 L1 P1 I1 n1 h => by obtain ⟨rfl, rfl, rfl, rfl, h⟩ := h; exact kk r I1 h)
theorem rcV2g (K : OK X Y cc own nL ret R nm) {a1 a2 : PV} (hd : decode cc pc = .ok (.invokevirtual idx, 3)) (hw : cL own idx y cy ny ry 2) (hw2 : Cond.instanceMethod y ∈ lw_tbl ∧ Cond.selects y.cls y y ∈ lw_tbl ∧ ci < 9 ∧ Rn ci = y.cls) (hT : T b = ci) (hM : CT y cy ny ry fr lo mc ms (.inr (some b) :: [a1, a2]) T L P I hn post) (hR : fr + 1 ≤ R.frames ∧ 19 + ny + lo ≤ R.locals ∧ cells + mc ≤ R.cells ∧ slots + ms ≤ R.slots) (hst : st.length ≤ 8) (kk : ∀ (r : Option PV) (T L : Nat → Nat) (P : Nat → Nat → Option Nat) (I : Nat → Nat → Int) (hn : Nat), post r T L P I hn → RR X Y Q (cells + mc) (slots + ms) (pc + 3) ls (r.toList ++ st) T L P I hn) : RR X Y Q cells slots pc ls (a2 :: a1 :: .inr (some b) :: st) T L P I hn :=
  r_callV K [a1, a2] hd hw hw2 rfl hT hM hR.1 hR.2.1 hR.2.2.1 hR.2.2.2 hst rfl kk
theorem rcV3p (K : OK X Y cc own nL ret R nm) {a1 a2 a3 : PV} (hd : decode cc pc = .ok (.invokevirtual idx, 3)) (hw : cL own idx y cy ny ry 3) (hw2 : Cond.instanceMethod y ∈ lw_tbl ∧ Cond.selects y.cls y y ∈ lw_tbl ∧ ci < 9 ∧ Rn ci = y.cls) (hT : T b = ci) (hM : CTp y cy ny ry fr lo (.inr (some b) :: [a1, a2, a3]) T L P I hn w) (hR : fr + 1 ≤ R.frames ∧ 19 + ny + lo ≤ R.locals ∧ cells + 0 ≤ R.cells ∧ slots + 0 ≤ R.slots) (hst : st.length ≤ 8) (kk : RR X Y Q cells slots (pc + 3) ls (w :: st) T L P I hn) : RR X Y Q cells slots pc ls (a3 :: a2 :: a1 :: .inr (some b) :: st) T L P I hn :=
  r_callV K [a1, a2, a3] hd hw hw2 rfl hT hM hR.1 hR.2.1 hR.2.2.1 hR.2.2.2 hst rfl (fun r T1 L1 P1 I1 n1 h => by obtain ⟨rfl, rfl, rfl, rfl, rfl, rfl⟩ := h; exact kk)
theorem rcV3i (K : OK X Y cc own nL ret R nm) {a1 a2 a3 : PV} (hd : decode cc pc = .ok (.invokevirtual idx, 3)) (hw : cL own idx y cy ny ry 3) (hw2 : Cond.instanceMethod y ∈ lw_tbl ∧ Cond.selects y.cls y y ∈ lw_tbl ∧ ci < 9 ∧ Rn ci = y.cls) (hT : T b = ci) (hM : CTi y cy ny ry fr lo (.inr (some b) :: [a1, a2, a3]) T L P I hn q) (hR : fr + 1 ≤ R.frames ∧ 19 + ny + lo ≤ R.locals ∧ cells + 0 ≤ R.cells ∧ slots + 0 ≤ R.slots) (hst : st.length ≤ 8) (kk : ∀ (r : Option PV) (I1 : Nat → Nat → Int), q r I1 → RR X Y Q cells slots (pc + 3) ls (r.toList ++ st) T L P I1 hn) : RR X Y Q cells slots pc ls (a3 :: a2 :: a1 :: .inr (some b) :: st) T L P I hn :=
  r_callV K [a1, a2, a3] hd hw hw2 rfl hT hM hR.1 hR.2.1 hR.2.2.1 hR.2.2.2 hst rfl (fun r T1 L1 P1 I1 n1 h => by obtain ⟨rfl, rfl, rfl, rfl, h⟩ := h; exact kk r I1 h)
theorem rcV3g (K : OK X Y cc own nL ret R nm) {a1 a2 a3 : PV} (hd : decode cc pc = .ok (.invokevirtual idx, 3)) (hw : cL own idx y cy ny ry 3) (hw2 : Cond.instanceMethod y ∈ lw_tbl ∧ Cond.selects y.cls y y ∈ lw_tbl ∧ ci < 9 ∧ Rn ci = y.cls) (hT : T b = ci) (hM : CT y cy ny ry fr lo mc ms (.inr (some b) :: [a1, a2, a3]) T L P I hn post) (hR : fr + 1 ≤ R.frames ∧ 19 + ny + lo ≤ R.locals ∧ cells + mc ≤ R.cells ∧ slots + ms ≤ R.slots) (hst : st.length ≤ 8) (kk : ∀ (r : Option PV) (T L : Nat → Nat) (P : Nat → Nat → Option Nat) (I : Nat → Nat → Int) (hn : Nat), post r T L P I hn → RR X Y Q (cells + mc) (slots + ms) (pc + 3) ls (r.toList ++ st) T L P I hn) : RR X Y Q cells slots pc ls (a3 :: a2 :: a1 :: .inr (some b) :: st) T L P I hn :=
  r_callV K [a1, a2, a3] hd hw hw2 rfl hT hM hR.1 hR.2.1 hR.2.2.1 hR.2.2.2 hst rfl kk
theorem rcV4p (K : OK X Y cc own nL ret R nm) {a1 a2 a3 a4 : PV} (hd : decode cc pc = .ok (.invokevirtual idx, 3)) (hw : cL own idx y cy ny ry 4) (hw2 : Cond.instanceMethod y ∈ lw_tbl ∧ Cond.selects y.cls y y ∈ lw_tbl ∧ ci < 9 ∧ Rn ci = y.cls) (hT : T b = ci) (hM : CTp y cy ny ry fr lo (.inr (some b) :: [a1, a2, a3, a4]) T L P I hn w) (hR : fr + 1 ≤ R.frames ∧ 19 + ny + lo ≤ R.locals ∧ cells + 0 ≤ R.cells ∧ slots + 0 ≤ R.slots) (hst : st.length ≤ 8) (kk : RR X Y Q cells slots (pc + 3) ls (w :: st) T L P I hn) : RR X Y Q cells slots pc ls (a4 :: a3 :: a2 :: a1 :: .inr (some b) :: st) T L P I hn :=
  r_callV K [a1, a2, a3, a4] hd hw hw2 rfl hT hM hR.1 hR.2.1 hR.2.2.1 hR.2.2.2 hst rfl (fun r T1 L1 P1 I1 n1 h => by obtain ⟨rfl, rfl, rfl, rfl, rfl, rfl⟩ := h; exact kk)
theorem rcV4i (K : OK X Y cc own nL ret R nm) {a1 a2 a3 a4 : PV} (hd : decode cc pc = .ok (.invokevirtual idx, 3)) (hw : cL own idx y cy ny ry 4) (hw2 : Cond.instanceMethod y ∈ lw_tbl ∧ Cond.selects y.cls y y ∈ lw_tbl ∧ ci < 9 ∧ Rn ci = y.cls) (hT : T b = ci) (hM : CTi y cy ny ry fr lo (.inr (some b) :: [a1, a2, a3, a4]) T L P I hn q) (hR : fr + 1 ≤ R.frames ∧ 19 + ny + lo ≤ R.locals ∧ cells + 0 ≤ R.cells ∧ slots + 0 ≤ R.slots) (hst : st.length ≤ 8) (kk : ∀ (r : Option PV) (I1 : Nat → Nat → Int), q r I1 → RR X Y Q cells slots (pc + 3) ls (r.toList ++ st) T L P I1 hn) : RR X Y Q cells slots pc ls (a4 :: a3 :: a2 :: a1 :: .inr (some b) :: st) T L P I hn :=
  r_callV K [a1, a2, a3, a4] hd hw hw2 rfl hT hM hR.1 hR.2.1 hR.2.2.1 hR.2.2.2 hst rfl (fun r T1 L1 P1 I1 n1 h => by obtain ⟨rfl, rfl, rfl, rfl, h⟩ := h; exact kk r I1 h)
theorem rcV4g (K : OK X Y cc own nL ret R nm) {a1 a2 a3 a4 : PV} (hd : decode cc pc = .ok (.invokevirtual idx, 3)) (hw : cL own idx y cy ny ry 4) (hw2 : Cond.instanceMethod y ∈ lw_tbl ∧ Cond.selects y.cls y y ∈ lw_tbl ∧ ci < 9 ∧ Rn ci = y.cls) (hT : T b = ci) (hM : CT y cy ny ry fr lo mc ms (.inr (some b) :: [a1, a2, a3, a4]) T L P I hn post) (hR : fr + 1 ≤ R.frames ∧ 19 + ny + lo ≤ R.locals ∧ cells + mc ≤ R.cells ∧ slots + ms ≤ R.slots) (hst : st.length ≤ 8) (kk : ∀ (r : Option PV) (T L : Nat → Nat) (P : Nat → Nat → Option Nat) (I : Nat → Nat → Int) (hn : Nat), post r T L P I hn → RR X Y Q (cells + mc) (slots + ms) (pc + 3) ls (r.toList ++ st) T L P I hn) : RR X Y Q cells slots pc ls (a4 :: a3 :: a2 :: a1 :: .inr (some b) :: st) T L P I hn :=
  r_callV K [a1, a2, a3, a4] hd hw hw2 rfl hT hM hR.1 hR.2.1 hR.2.2.1 hR.2.2.2 hst rfl kk
theorem rcV5p (K : OK X Y cc own nL ret R nm) {a1 a2 a3 a4 a5 : PV} (hd : decode cc pc = .ok (.invokevirtual idx, 3)) (hw : cL own idx y cy ny ry 5) (hw2 : Cond.instanceMethod y ∈ lw_tbl ∧ Cond.selects y.cls y y ∈ lw_tbl ∧ ci < 9 ∧ Rn ci = y.cls) (hT : T b = ci) (hM : CTp y cy ny ry fr lo (.inr (some b) :: [a1, a2, a3, a4, a5]) T L P I hn w) (hR : fr + 1 ≤ R.frames ∧ 19 + ny + lo ≤ R.locals ∧ cells + 0 ≤ R.cells ∧ slots + 0 ≤ R.slots) (hst : st.length ≤ 8) (kk : RR X Y Q cells slots (pc + 3) ls (w :: st) T L P I hn) : RR X Y Q cells slots pc ls (a5 :: a4 :: a3 :: a2 :: a1 :: .inr (some b) :: st) T L P I hn :=
  r_callV K [a1, a2, a3, a4, a5] hd hw hw2 rfl hT hM hR.1 hR.2.1 hR.2.2.1 hR.2.2.2 hst rfl (fun r T1 L1 P1 I1 n1 h => by obtain ⟨rfl, rfl, rfl, rfl, rfl, rfl⟩ := h; exact kk)
theorem rcV5i (K : OK X Y cc own nL ret R nm) {a1 a2 a3 a4 a5 : PV} (hd : decode cc pc = .ok (.invokevirtual idx, 3)) (hw : cL own idx y cy ny ry 5) (hw2 : Cond.instanceMethod y ∈ lw_tbl ∧ Cond.selects y.cls y y ∈ lw_tbl ∧ ci < 9 ∧ Rn ci = y.cls) (hT : T b = ci) (hM : CTi y cy ny ry fr lo (.inr (some b) :: [a1, a2, a3, a4, a5]) T L P I hn q) (hR : fr + 1 ≤ R.frames ∧ 19 + ny + lo ≤ R.locals ∧ cells + 0 ≤ R.cells ∧ slots + 0 ≤ R.slots) (hst : st.length ≤ 8) (kk : ∀ (r : Option PV) (I1 : Nat → Nat → Int), q r I1 → RR X Y Q cells slots (pc + 3) ls (r.toList ++ st) T L P I1 hn) : RR X Y Q cells slots pc ls (a5 :: a4 :: a3 :: a2 :: a1 :: .inr (some b) :: st) T L P I hn :=
  r_callV K [a1, a2, a3, a4, a5] hd hw hw2 rfl hT hM hR.1 hR.2.1 hR.2.2.1 hR.2.2.2 hst rfl (fun r T1 L1 P1 I1 n1 h => by obtain ⟨rfl, rfl, rfl, rfl, h⟩ := h; exact kk r I1 h)
theorem rcV5g (K : OK X Y cc own nL ret R nm) {a1 a2 a3 a4 a5 : PV} (hd : decode cc pc = .ok (.invokevirtual idx, 3)) (hw : cL own idx y cy ny ry 5) (hw2 : Cond.instanceMethod y ∈ lw_tbl ∧ Cond.selects y.cls y y ∈ lw_tbl ∧ ci < 9 ∧ Rn ci = y.cls) (hT : T b = ci) (hM : CT y cy ny ry fr lo mc ms (.inr (some b) :: [a1, a2, a3, a4, a5]) T L P I hn post) (hR : fr + 1 ≤ R.frames ∧ 19 + ny + lo ≤ R.locals ∧ cells + mc ≤ R.cells ∧ slots + ms ≤ R.slots) (hst : st.length ≤ 8) (kk : ∀ (r : Option PV) (T L : Nat → Nat) (P : Nat → Nat → Option Nat) (I : Nat → Nat → Int) (hn : Nat), post r T L P I hn → RR X Y Q (cells + mc) (slots + ms) (pc + 3) ls (r.toList ++ st) T L P I hn) : RR X Y Q cells slots pc ls (a5 :: a4 :: a3 :: a2 :: a1 :: .inr (some b) :: st) T L P I hn :=
  r_callV K [a1, a2, a3, a4, a5] hd hw hw2 rfl hT hM hR.1 hR.2.1 hR.2.2.1 hR.2.2.2 hst rfl kk
theorem rcS0p (K : OK X Y cc own nL ret R nm) (hd : decode cc pc = .ok (.invokestatic idx, 3)) (hw : cL own idx y cy ny ry 0) (hw2 : Cond.static y ∈ lw_tbl) (hM : CTp y cy ny ry fr lo [] T L P I hn w) (hR : fr + 1 ≤ R.frames ∧ 19 + ny + lo ≤ R.locals ∧ cells + 0 ≤ R.cells ∧ slots + 0 ≤ R.slots) (hst : st.length ≤ 8) (kk : RR X Y Q cells slots (pc + 3) ls (w :: st) T L P I hn) : RR X Y Q cells slots pc ls (st) T L P I hn :=
  r_callS K [] hd hw hw2 rfl hM hR.1 hR.2.1 hR.2.2.1 hR.2.2.2 hst rfl (fun r T1 L1 P1 I1 n1 h => by obtain ⟨rfl, rfl, rfl, rfl, rfl, rfl⟩ := h; exact kk)
theorem rcS0i (K : OK X Y cc own nL ret R nm) (hd : decode cc pc = .ok (.invokestatic idx, 3)) (hw : cL own idx y cy ny ry 0) (hw2 : Cond.static y ∈ lw_tbl) (hM : CTi y cy ny ry fr lo [] T L P I hn q) (hR : fr + 1 ≤ R.frames ∧ 19 + ny + lo ≤ R.locals ∧ cells + 0 ≤ R.cells ∧ slots + 0 ≤ R.slots) (hst : st.length ≤ 8) (kk : ∀ (r : Option PV) (I1 : Nat → Nat → Int), q r I1 → RR X Y Q cells slots (pc + 3) ls (r.toList ++ st) T L P I1 hn) : RR X Y Q cells slots pc ls (st) T L P I hn :=
  r_callS K [] hd hw hw2 rfl hM hR.1 hR.2.1 hR.2.2.1 hR.2.2.2 hst rfl (fun r T1 L1 P1 I1 n1 h => by obtain ⟨rfl, rfl, rfl, rfl, h⟩ := h; exact kk r I1 h)
theorem rcS0g (K : OK X Y cc own nL ret R nm) (hd : decode cc pc = .ok (.invokestatic idx, 3)) (hw : cL own idx y cy ny ry 0) (hw2 : Cond.static y ∈ lw_tbl) (hM : CT y cy ny ry fr lo mc ms [] T L P I hn post) (hR : fr + 1 ≤ R.frames ∧ 19 + ny + lo ≤ R.locals ∧ cells + mc ≤ R.cells ∧ slots + ms ≤ R.slots) (hst : st.length ≤ 8) (kk : ∀ (r : Option PV) (T L : Nat → Nat) (P : Nat → Nat → Option Nat) (I : Nat → Nat → Int) (hn : Nat), post r T L P I hn → RR X Y Q (cells + mc) (slots + ms) (pc + 3) ls (r.toList ++ st) T L P I hn) : RR X Y Q cells slots pc ls (st) T L P I hn :=
  r_callS K [] hd hw hw2 rfl hM hR.1 hR.2.1 hR.2.2.1 hR.2.2.2 hst rfl kk
theorem rcS1p (K : OK X Y cc own nL ret R nm) {a1 : PV} (hd : decode cc pc = .ok (.invokestatic idx, 3)) (hw : cL own idx y cy ny ry 1) (hw2 : Cond.static y ∈ lw_tbl) (hM : CTp y cy ny ry fr lo [a1] T L P I hn w) (hR : fr + 1 ≤ R.frames ∧ 19 + ny + lo ≤ R.locals ∧ cells + 0 ≤ R.cells ∧ slots + 0 ≤ R.slots) (hst : st.length ≤ 8) (kk : RR X Y Q cells slots (pc + 3) ls (w :: st) T L P I hn) : RR X Y Q cells slots pc ls (a1 :: st) T L P I hn :=
  r_callS K [a1] hd hw hw2 rfl hM hR.1 hR.2.1 hR.2.2.1 hR.2.2.2 hst rfl (fun r T1 L1 P1 I1 n1 h => by obtain ⟨rfl, rfl, rfl, rfl, rfl, rfl⟩ := h; exact kk)
theorem rcS1i (K : OK X Y cc own nL ret R nm) {a1 : PV} (hd : decode cc pc = .ok (.invokestatic idx, 3)) (hw : cL own idx y cy ny ry 1) (hw2 : Cond.static y ∈ lw_tbl) (hM : CTi y cy ny ry fr lo [a1] T L P I hn q) (hR : fr + 1 ≤ R.frames ∧ 19 + ny + lo ≤ R.locals ∧ cells + 0 ≤ R.cells ∧ slots + 0 ≤ R.slots) (hst : st.length ≤ 8) (kk : ∀ (r : Option PV) (I1 : Nat → Nat → Int), q r I1 → RR X Y Q cells slots (pc + 3) ls (r.toList ++ st) T L P I1 hn) : RR X Y Q cells slots pc ls (a1 :: st) T L P I hn :=
  r_callS K [a1] hd hw hw2 rfl hM hR.1 hR.2.1 hR.2.2.1 hR.2.2.2 hst rfl (fun r T1 L1 P1 I1 n1 h => by obtain ⟨rfl, rfl, rfl, rfl, h⟩ := h; exact kk r I1 h)
theorem rcS1g (K : OK X Y cc own nL ret R nm) {a1 : PV} (hd : decode cc pc = .ok (.invokestatic idx, 3)) (hw : cL own idx y cy ny ry 1) (hw2 : Cond.static y ∈ lw_tbl) (hM : CT y cy ny ry fr lo mc ms [a1] T L P I hn post) (hR : fr + 1 ≤ R.frames ∧ 19 + ny + lo ≤ R.locals ∧ cells + mc ≤ R.cells ∧ slots + ms ≤ R.slots) (hst : st.length ≤ 8) (kk : ∀ (r : Option PV) (T L : Nat → Nat) (P : Nat → Nat → Option Nat) (I : Nat → Nat → Int) (hn : Nat), post r T L P I hn → RR X Y Q (cells + mc) (slots + ms) (pc + 3) ls (r.toList ++ st) T L P I hn) : RR X Y Q cells slots pc ls (a1 :: st) T L P I hn :=
  r_callS K [a1] hd hw hw2 rfl hM hR.1 hR.2.1 hR.2.2.1 hR.2.2.2 hst rfl kk
theorem rcS2p (K : OK X Y cc own nL ret R nm) {a1 a2 : PV} (hd : decode cc pc = .ok (.invokestatic idx, 3)) (hw : cL own idx y cy ny ry 2) (hw2 : Cond.static y ∈ lw_tbl) (hM : CTp y cy ny ry fr lo [a1, a2] T L P I hn w) (hR : fr + 1 ≤ R.frames ∧ 19 + ny + lo ≤ R.locals ∧ cells + 0 ≤ R.cells ∧ slots + 0 ≤ R.slots) (hst : st.length ≤ 8) (kk : RR X Y Q cells slots (pc + 3) ls (w :: st) T L P I hn) : RR X Y Q cells slots pc ls (a2 :: a1 :: st) T L P I hn :=
  r_callS K [a1, a2] hd hw hw2 rfl hM hR.1 hR.2.1 hR.2.2.1 hR.2.2.2 hst rfl (fun r T1 L1 P1 I1 n1 h => by obtain ⟨rfl, rfl, rfl, rfl, rfl, rfl⟩ := h; exact kk)
theorem rcS2i (K : OK X Y cc own nL ret R nm) {a1 a2 : PV} (hd : decode cc pc = .ok (.invokestatic idx, 3)) (hw : cL own idx y cy ny ry 2) (hw2 : Cond.static y ∈ lw_tbl) (hM : CTi y cy ny ry fr lo [a1, a2] T L P I hn q) (hR : fr + 1 ≤ R.frames ∧ 19 + ny + lo ≤ R.locals ∧ cells + 0 ≤ R.cells ∧ slots + 0 ≤ R.slots) (hst : st.length ≤ 8) (kk : ∀ (r : Option PV) (I1 : Nat → Nat → Int), q r I1 → RR X Y Q cells slots (pc + 3) ls (r.toList ++ st) T L P I1 hn) : RR X Y Q cells slots pc ls (a2 :: a1 :: st) T L P I hn :=
  r_callS K [a1, a2] hd hw hw2 rfl hM hR.1 hR.2.1 hR.2.2.1 hR.2.2.2 hst rfl (fun r T1 L1 P1 I1 n1 h => by obtain ⟨rfl, rfl, rfl, rfl, h⟩ := h; exact kk r I1 h)
theorem rcS2g (K : OK X Y cc own nL ret R nm) {a1 a2 : PV} (hd : decode cc pc = .ok (.invokestatic idx, 3)) (hw : cL own idx y cy ny ry 2) (hw2 : Cond.static y ∈ lw_tbl) (hM : CT y cy ny ry fr lo mc ms [a1, a2] T L P I hn post) (hR : fr + 1 ≤ R.frames ∧ 19 + ny + lo ≤ R.locals ∧ cells + mc ≤ R.cells ∧ slots + ms ≤ R.slots) (hst : st.length ≤ 8) (kk : ∀ (r : Option PV) (T L : Nat → Nat) (P : Nat → Nat → Option Nat) (I : Nat → Nat → Int) (hn : Nat), post r T L P I hn → RR X Y Q (cells + mc) (slots + ms) (pc + 3) ls (r.toList ++ st) T L P I hn) : RR X Y Q cells slots pc ls (a2 :: a1 :: st) T L P I hn :=
  r_callS K [a1, a2] hd hw hw2 rfl hM hR.1 hR.2.1 hR.2.2.1 hR.2.2.2 hst rfl kk
theorem rcS3p (K : OK X Y cc own nL ret R nm) {a1 a2 a3 : PV} (hd : decode cc pc = .ok (.invokestatic idx, 3)) (hw : cL own idx y cy ny ry 3) (hw2 : Cond.static y ∈ lw_tbl) (hM : CTp y cy ny ry fr lo [a1, a2, a3] T L P I hn w) (hR : fr + 1 ≤ R.frames ∧ 19 + ny + lo ≤ R.locals ∧ cells + 0 ≤ R.cells ∧ slots + 0 ≤ R.slots) (hst : st.length ≤ 8) (kk : RR X Y Q cells slots (pc + 3) ls (w :: st) T L P I hn) : RR X Y Q cells slots pc ls (a3 :: a2 :: a1 :: st) T L P I hn :=
  r_callS K [a1, a2, a3] hd hw hw2 rfl hM hR.1 hR.2.1 hR.2.2.1 hR.2.2.2 hst rfl (fun r T1 L1 P1 I1 n1 h => by obtain ⟨rfl, rfl, rfl, rfl, rfl, rfl⟩ := h; exact kk)
theorem rcS3i (K : OK X Y cc own nL ret R nm) {a1 a2 a3 : PV} (hd : decode cc pc = .ok (.invokestatic idx, 3)) (hw : cL own idx y cy ny ry 3) (hw2 : Cond.static y ∈ lw_tbl) (hM : CTi y cy ny ry fr lo [a1, a2, a3] T L P I hn q) (hR : fr + 1 ≤ R.frames ∧ 19 + ny + lo ≤ R.locals ∧ cells + 0 ≤ R.cells ∧ slots + 0 ≤ R.slots) (hst : st.length ≤ 8) (kk : ∀ (r : Option PV) (I1 : Nat → Nat → Int), q r I1 → RR X Y Q cells slots (pc + 3) ls (r.toList ++ st) T L P I1 hn) : RR X Y Q cells slots pc ls (a3 :: a2 :: a1 :: st) T L P I hn :=
  r_callS K [a1, a2, a3] hd hw hw2 rfl hM hR.1 hR.2.1 hR.2.2.1 hR.2.2.2 hst rfl (fun r T1 L1 P1 I1 n1 h => by obtain ⟨rfl, rfl, rfl, rfl, h⟩ := h; exact kk r I1 h)
theorem rcS3g (K : OK X Y cc own nL ret R nm) {a1 a2 a3 : PV} (hd : decode cc pc = .ok (.invokestatic idx, 3)) (hw : cL own idx y cy ny ry 3) (hw2 : Cond.static y ∈ lw_tbl) (hM : CT y cy ny ry fr lo mc ms [a1, a2, a3] T L P I hn post) (hR : fr + 1 ≤ R.frames ∧ 19 + ny + lo ≤ R.locals ∧ cells + mc ≤ R.cells ∧ slots + ms ≤ R.slots) (hst : st.length ≤ 8) (kk : ∀ (r : Option PV) (T L : Nat → Nat) (P : Nat → Nat → Option Nat) (I : Nat → Nat → Int) (hn : Nat), post r T L P I hn → RR X Y Q (cells + mc) (slots + ms) (pc + 3) ls (r.toList ++ st) T L P I hn) : RR X Y Q cells slots pc ls (a3 :: a2 :: a1 :: st) T L P I hn :=
  r_callS K [a1, a2, a3] hd hw hw2 rfl hM hR.1 hR.2.1 hR.2.2.1 hR.2.2.2 hst rfl kk
theorem rcS4p (K : OK X Y cc own nL ret R nm) {a1 a2 a3 a4 : PV} (hd : decode cc pc = .ok (.invokestatic idx, 3)) (hw : cL own idx y cy ny ry 4) (hw2 : Cond.static y ∈ lw_tbl) (hM : CTp y cy ny ry fr lo [a1, a2, a3, a4] T L P I hn w) (hR : fr + 1 ≤ R.frames ∧ 19 + ny + lo ≤ R.locals ∧ cells + 0 ≤ R.cells ∧ slots + 0 ≤ R.slots) (hst : st.length ≤ 8) (kk : RR X Y Q cells slots (pc + 3) ls (w :: st) T L P I hn) : RR X Y Q cells slots pc ls (a4 :: a3 :: a2 :: a1 :: st) T L P I hn :=
  r_callS K [a1, a2, a3, a4] hd hw hw2 rfl hM hR.1 hR.2.1 hR.2.2.1 hR.2.2.2 hst rfl (fun r T1 L1 P1 I1 n1 h => by obtain ⟨rfl, rfl, rfl, rfl, rfl, rfl⟩ := h; exact kk)
theorem rcS4i (K : OK X Y cc own nL ret R nm) {a1 a2 a3 a4 : PV} (hd : decode cc pc = .ok (.invokestatic idx, 3)) (hw : cL own idx y cy ny ry 4) (hw2 : Cond.static y ∈ lw_tbl) (hM : CTi y cy ny ry fr lo [a1, a2, a3, a4] T L P I hn q) (hR : fr + 1 ≤ R.frames ∧ 19 + ny + lo ≤ R.locals ∧ cells + 0 ≤ R.cells ∧ slots + 0 ≤ R.slots) (hst : st.length ≤ 8) (kk : ∀ (r : Option PV) (I1 : Nat → Nat → Int), q r I1 → RR X Y Q cells slots (pc + 3) ls (r.toList ++ st) T L P I1 hn) : RR X Y Q cells slots pc ls (a4 :: a3 :: a2 :: a1 :: st) T L P I hn :=
  r_callS K [a1, a2, a3, a4] hd hw hw2 rfl hM hR.1 hR.2.1 hR.2.2.1 hR.2.2.2 hst rfl (fun r T1 L1 P1 I1 n1 h => by obtain ⟨rfl, rfl, rfl, rfl, h⟩ := h; exact kk r I1 h)
theorem rcS4g (K : OK X Y cc own nL ret R nm) {a1 a2 a3 a4 : PV} (hd : decode cc pc = .ok (.invokestatic idx, 3)) (hw : cL own idx y cy ny ry 4) (hw2 : Cond.static y ∈ lw_tbl) (hM : CT y cy ny ry fr lo mc ms [a1, a2, a3, a4] T L P I hn post) (hR : fr + 1 ≤ R.frames ∧ 19 + ny + lo ≤ R.locals ∧ cells + mc ≤ R.cells ∧ slots + ms ≤ R.slots) (hst : st.length ≤ 8) (kk : ∀ (r : Option PV) (T L : Nat → Nat) (P : Nat → Nat → Option Nat) (I : Nat → Nat → Int) (hn : Nat), post r T L P I hn → RR X Y Q (cells + mc) (slots + ms) (pc + 3) ls (r.toList ++ st) T L P I hn) : RR X Y Q cells slots pc ls (a4 :: a3 :: a2 :: a1 :: st) T L P I hn :=
  r_callS K [a1, a2, a3, a4] hd hw hw2 rfl hM hR.1 hR.2.1 hR.2.2.1 hR.2.2.2 hst rfl kk
theorem rcS5p (K : OK X Y cc own nL ret R nm) {a1 a2 a3 a4 a5 : PV} (hd : decode cc pc = .ok (.invokestatic idx, 3)) (hw : cL own idx y cy ny ry 5) (hw2 : Cond.static y ∈ lw_tbl) (hM : CTp y cy ny ry fr lo [a1, a2, a3, a4, a5] T L P I hn w) (hR : fr + 1 ≤ R.frames ∧ 19 + ny + lo ≤ R.locals ∧ cells + 0 ≤ R.cells ∧ slots + 0 ≤ R.slots) (hst : st.length ≤ 8) (kk : RR X Y Q cells slots (pc + 3) ls (w :: st) T L P I hn) : RR X Y Q cells slots pc ls (a5 :: a4 :: a3 :: a2 :: a1 :: st) T L P I hn :=
  r_callS K [a1, a2, a3, a4, a5] hd hw hw2 rfl hM hR.1 hR.2.1 hR.2.2.1 hR.2.2.2 hst rfl (fun r T1 L1 P1 I1 n1 h => by obtain ⟨rfl, rfl, rfl, rfl, rfl, rfl⟩ := h; exact kk)
theorem rcS5i (K : OK X Y cc own nL ret R nm) {a1 a2 a3 a4 a5 : PV} (hd : decode cc pc = .ok (.invokestatic idx, 3)) (hw : cL own idx y cy ny ry 5) (hw2 : Cond.static y ∈ lw_tbl) (hM : CTi y cy ny ry fr lo [a1, a2, a3, a4, a5] T L P I hn q) (hR : fr + 1 ≤ R.frames ∧ 19 + ny + lo ≤ R.locals ∧ cells + 0 ≤ R.cells ∧ slots + 0 ≤ R.slots) (hst : st.length ≤ 8) (kk : ∀ (r : Option PV) (I1 : Nat → Nat → Int), q r I1 → RR X Y Q cells slots (pc + 3) ls (r.toList ++ st) T L P I1 hn) : RR X Y Q cells slots pc ls (a5 :: a4 :: a3 :: a2 :: a1 :: st) T L P I hn :=
  r_callS K [a1, a2, a3, a4, a5] hd hw hw2 rfl hM hR.1 hR.2.1 hR.2.2.1 hR.2.2.2 hst rfl (fun r T1 L1 P1 I1 n1 h => by obtain ⟨rfl, rfl, rfl, rfl, h⟩ := h; exact kk r I1 h)
theorem rcS5g (K : OK X Y cc own nL ret R nm) {a1 a2 a3 a4 a5 : PV} (hd : decode cc pc = .ok (.invokestatic idx, 3)) (hw : cL own idx y cy ny ry 5) (hw2 : Cond.static y ∈ lw_tbl) (hM : CT y cy ny ry fr lo mc ms [a1, a2, a3, a4, a5] T L P I hn post) (hR : fr + 1 ≤ R.frames ∧ 19 + ny + lo ≤ R.locals ∧ cells + mc ≤ R.cells ∧ slots + ms ≤ R.slots) (hst : st.length ≤ 8) (kk : ∀ (r : Option PV) (T L : Nat → Nat) (P : Nat → Nat → Option Nat) (I : Nat → Nat → Int) (hn : Nat), post r T L P I hn → RR X Y Q (cells + mc) (slots + ms) (pc + 3) ls (r.toList ++ st) T L P I hn) : RR X Y Q cells slots pc ls (a5 :: a4 :: a3 :: a2 :: a1 :: st) T L P I hn :=
  r_callS K [a1, a2, a3, a4, a5] hd hw hw2 rfl hM hR.1 hR.2.1 hR.2.2.1 hR.2.2.2 hst rfl kk
theorem rcI0i (K : OK X Y cc own nL ret R nm) (hd : decode cc pc = .ok (.invokespecial idx, 3)) (hw : cL own idx y cy ny none 0) (hw2 : Cond.instanceMethod y ∈ lw_tbl ∧ y.name = "<init>") (hM : CTi y cy ny none fr lo (.inr (some b) :: []) T L P I hn q) (hR : fr + 1 ≤ R.frames ∧ 19 + ny + lo ≤ R.locals ∧ cells + 0 ≤ R.cells ∧ slots + 0 ≤ R.slots) (hst : st.length ≤ 8) (kk : ∀ (r : Option PV) (I1 : Nat → Nat → Int), q r I1 → RR X Y Q cells slots (pc + 3) ls (r.toList ++ st) T L P I1 hn) : RR X Y Q cells slots pc ls (.inr (some b) :: st) T L P I hn :=
  r_callI K [] hd hw hw2 rfl hM hR.1 hR.2.1 hR.2.2.1 hR.2.2.2 hst rfl (fun r T1 L1 P1 I1 n1 h => by obtain ⟨rfl, rfl, rfl, rfl, h⟩ := h; exact kk r I1 h)
theorem rcI0g (K : OK X Y cc own nL ret R nm) (hd : decode cc pc = .ok (.invokespecial idx, 3)) (hw : cL own idx y cy ny none 0) (hw2 : Cond.instanceMethod y ∈ lw_tbl ∧ y.name = "<init>") (hM : CT y cy ny none fr lo mc ms (.inr (some b) :: []) T L P I hn post) (hR : fr + 1 ≤ R.frames ∧ 19 + ny + lo ≤ R.locals ∧ cells + mc ≤ R.cells ∧ slots + ms ≤ R.slots) (hst : st.length ≤ 8) (kk : ∀ (r : Option PV) (T L : Nat → Nat) (P : Nat → Nat → Option Nat) (I : Nat → Nat → Int) (hn : Nat), post r T L P I hn → RR X Y Q (cells + mc) (slots + ms) (pc + 3) ls (r.toList ++ st) T L P I hn) : RR X Y Q cells slots pc ls (.inr (some b) :: st) T L P I hn :=
  r_callI K [] hd hw hw2 rfl hM hR.1 hR.2.1 hR.2.2.1 hR.2.2.2 hst rfl kk
theorem rcI1i (K : OK X Y cc own nL ret R nm) {a1 : PV} (hd : decode cc pc = .ok (.invokespecial idx, 3)) (hw : cL own idx y cy ny none 1) (hw2 : Cond.instanceMethod y ∈ lw_tbl ∧ y.name = "<init>") (hM : CTi y cy ny none fr lo (.inr (some b) :: [a1]) T L P I hn q) (hR : fr + 1 ≤ R.frames ∧ 19 + ny + lo ≤ R.locals ∧ cells + 0 ≤ R.cells ∧ slots + 0 ≤ R.slots) (hst : st.length ≤ 8) (kk : ∀ (r : Option PV) (I1 : Nat → Nat → Int), q r I1 → RR X Y Q cells slots (pc + 3) ls (r.toList ++ st) T L P I1 hn) : RR X Y Q cells slots pc ls (a1 :: .inr (some b) :: st) T L P I hn :=
  r_callI K [a1] hd hw hw2 rfl hM hR.1 hR.2.1 hR.2.2.1 hR.2.2.2 hst rfl (fun r T1 L1 P1 I1 n1 h => by obtain ⟨rfl, rfl, rfl, rfl, h⟩ := h; exact kk r I1 h)
theorem rcI1g (K : OK X Y cc own nL ret R nm) {a1 : PV} (hd : decode cc pc = .ok (.invokespecial idx, 3)) (hw : cL own idx y cy ny none 1) (hw2 : Cond.instanceMethod y ∈ lw_tbl ∧ y.name = "<init>") (hM : CT y cy ny none fr lo mc ms (.inr (some b) :: [a1]) T L P I hn post) (hR : fr + 1 ≤ R.frames ∧ 19 + ny + lo ≤ R.locals ∧ cells + mc ≤ R.cells ∧ slots + ms ≤ R.slots) (hst : st.length ≤ 8) (kk : ∀ (r : Option PV) (T L : Nat → Nat) (P : Nat → Nat → Option Nat) (I : Nat → Nat → Int) (hn : Nat), post r T L P I hn → RR X Y Q (cells + mc) (slots + ms) (pc + 3) ls (r.toList ++ st) T L P I hn) : RR X Y Q cells slots pc ls (a1 :: .inr (some b) :: st) T L P I hn :=
  r_callI K [a1] hd hw hw2 rfl hM hR.1 hR.2.1 hR.2.2.1 hR.2.2.2 hst rfl kk
end CROW
theorem CT.by {y : MethodName} {cc : ByteArray} {nL : Nat} {ret : Option FieldType} {fr lo mc ms : Nat} {pa : List PV} {T L : Nat → Nat} {P : Nat → Nat → Option Nat} {I : Nat → Nat → Int} {hn : Nat} {post : Po} (hy : plainName y.cls = true) (hpa : pa.length ≤ nL) (body : ∀ (X : Cx) (Y : SY) (Q : State → Prop), Q = QM X Y post mc ms → OK X Y cc y.cls nL ret (rm_ fr lo mc ms) y.name → (∀ v ∈ pa, vg v) → RR X Y Q 0 0 0 (ls0 pa nL) [] T L P I hn) : CT y cc nL ret fr lo mc ms pa T L P I hn post :=
  CT.of hy hpa fun X Y K hv => body X Y _ rfl K hv
section RET2
variable {X : Cx} {Y : SY} {Q : State → Prop} {cells slots pc : Nat} {ls : List (Option PV)} {T L : Nat → Nat} {P : Nat → Nat → Option Nat} {I : Nat → Nat → Int} {hn : Nat} {cc : ByteArray} {own : String} {nL : Nat} {R : Room} {nm : String} {post : Po} {mc ms : Nat} {ret : Option FieldType}
theorem q_iret (K : OK X Y cc own nL ret R nm) (hQ : Q = QM X Y post mc ms) (hr : ret = some .int) {z : Int} (hd : decode cc pc = .ok (.ireturn, 1)) (hc : cells ≤ mc) (hs : slots ≤ ms) (hp : post (some (.inl z)) T L P I hn) : RR X Y Q cells slots pc ls [.inl z] T L P I hn := hQ ▸ r_iret K hr hd hc hs hp
theorem q_zret (K : OK X Y cc own nL ret R nm) (hQ : Q = QM X Y post mc ms) (hr : ret = some .boolean) {z : Int} (hd : decode cc pc = .ok (.ireturn, 1)) (h01 : z = 0 ∨ z = 1) (hc : cells ≤ mc) (hs : slots ≤ ms) (hp : post (some (.inl z)) T L P I hn) : RR X Y Q cells slots pc ls [.inl z] T L P I hn := hQ ▸ r_zret K hr hd h01 hc hs hp
theorem q_vret (K : OK X Y cc own nL ret R nm) (hQ : Q = QM X Y post mc ms) (hr : ret = none) (hd : decode cc pc = .ok (.return_, 1)) (hc : cells ≤ mc) (hs : slots ≤ ms) (hp : post none T L P I hn) : RR X Y Q cells slots pc ls [] T L P I hn := hQ ▸ r_vret K hr hd hc hs hp
theorem q_aret (K : OK X Y cc own nL ret R nm) (hQ : Q = QM X Y post mc ms) {C : String} (hr : ret = some (.object C)) {q : Nat} (hd : decode cc pc = .ok (.areturn, 1)) (hc : cells ≤ mc) (hs : slots ≤ ms) (hp : post (some (.inr (some q))) T L P I hn) : RR X Y Q cells slots pc ls [.inr (some q)] T L P I hn := hQ ▸ r_aret K hr hd hc hs hp
end RET2
end
section
abbrev pX7_init := CTp yX7_init cX7_init 1 none 3 63
abbrev iX7_init := CTi yX7_init cX7_init 1 none 3 63
abbrev gX7_init (mc ms : Nat) := CT yX7_init cX7_init 1 none 3 63 mc ms
abbrev pX7_feed := CTp yX7_feed cX7_feed 6 (some .int) 1 22
abbrev iX7_feed := CTi yX7_feed cX7_feed 6 (some .int) 1 22
abbrev gX7_feed (mc ms : Nat) := CT yX7_feed cX7_feed 6 (some .int) 1 22 mc ms
abbrev pX7_version := CTp yX7_version cX7_version 3 (some .int) 3 74
abbrev iX7_version := CTi yX7_version cX7_version 3 (some .int) 3 74
abbrev gX7_version (mc ms : Nat) := CT yX7_version cX7_version 3 (some .int) 3 74 mc ms
abbrev pX7_told := CTp yX7_told cX7_told 4 (some .int) 1 21
abbrev iX7_told := CTi yX7_told cX7_told 4 (some .int) 1 21
abbrev gX7_told (mc ms : Nat) := CT yX7_told cX7_told 4 (some .int) 1 21 mc ms
abbrev pX7_check := CTp yX7_check cX7_check 2 (some .int) 1 22
abbrev iX7_check := CTi yX7_check cX7_check 2 (some .int) 1 22
abbrev gX7_check (mc ms : Nat) := CT yX7_check cX7_check 2 (some .int) 1 22 mc ms
abbrev pX7_cost := CTp yX7_cost cX7_cost 3 (some .int) 6 141
abbrev iX7_cost := CTi yX7_cost cX7_cost 3 (some .int) 6 141
abbrev gX7_cost (mc ms : Nat) := CT yX7_cost cX7_cost 3 (some .int) 6 141 mc ms
abbrev pX7_step := CTp yX7_step cX7_step 5 (some .int) 5 119
abbrev iX7_step := CTi yX7_step cX7_step 5 (some .int) 5 119
abbrev gX7_step (mc ms : Nat) := CT yX7_step cX7_step 5 (some .int) 5 119 mc ms
abbrev pX7_melt := CTp yX7_melt cX7_melt 4 (some .int) 5 119
abbrev iX7_melt := CTi yX7_melt cX7_melt 4 (some .int) 5 119
abbrev gX7_melt (mc ms : Nat) := CT yX7_melt cX7_melt 4 (some .int) 5 119 mc ms
abbrev pX7_melted := CTp yX7_melted cX7_melted 3 (some .int) 1 22
abbrev iX7_melted := CTi yX7_melted cX7_melted 3 (some .int) 1 22
abbrev gX7_melted (mc ms : Nat) := CT yX7_melted cX7_melted 3 (some .int) 1 22 mc ms
abbrev pX7_room := CTp yX7_room cX7_room 4 (some .int) 5 119
abbrev iX7_room := CTi yX7_room cX7_room 4 (some .int) 5 119
abbrev gX7_room (mc ms : Nat) := CT yX7_room cX7_room 4 (some .int) 5 119 mc ms
abbrev pX7_install := CTp yX7_install cX7_install 2 (some .boolean) 3 71
abbrev iX7_install := CTi yX7_install cX7_install 2 (some .boolean) 3 71
abbrev gX7_install (mc ms : Nat) := CT yX7_install cX7_install 2 (some .boolean) 3 71 mc ms
abbrev pX7_update := CTp yX7_update cX7_update 3 (some .int) 5 119
abbrev iX7_update := CTi yX7_update cX7_update 3 (some .int) 5 119
abbrev gX7_update (mc ms : Nat) := CT yX7_update cX7_update 3 (some .int) 5 119 mc ms
abbrev pX7_write := CTp yX7_write cX7_write 2 (some .int) 5 108
abbrev iX7_write := CTi yX7_write cX7_write 2 (some .int) 5 108
abbrev gX7_write (mc ms : Nat) := CT yX7_write cX7_write 2 (some .int) 5 108 mc ms
abbrev pX7_cut := CTp yX7_cut cX7_cut 1 (some .boolean) 0 0
abbrev iX7_cut := CTi yX7_cut cX7_cut 1 (some .boolean) 0 0
abbrev gX7_cut (mc ms : Nat) := CT yX7_cut cX7_cut 1 (some .boolean) 0 0 mc ms
abbrev pX7_on := CTp yX7_on cX7_on 1 (some .int) 2 40
abbrev iX7_on := CTi yX7_on cX7_on 1 (some .int) 2 40
abbrev gX7_on (mc ms : Nat) := CT yX7_on cX7_on 1 (some .int) 2 40 mc ms
abbrev pX7_device := CTp yX7_device cX7_device 2 (some .int) 2 43
abbrev iX7_device := CTi yX7_device cX7_device 2 (some .int) 2 43
abbrev gX7_device (mc ms : Nat) := CT yX7_device cX7_device 2 (some .int) 2 43 mc ms
abbrev pX7_fleet := CTp yX7_fleet cX7_fleet 3 (some .boolean) 1 22
abbrev iX7_fleet := CTi yX7_fleet cX7_fleet 3 (some .boolean) 1 22
abbrev gX7_fleet (mc ms : Nat) := CT yX7_fleet cX7_fleet 3 (some .boolean) 1 22 mc ms
abbrev pX7_hold := CTp yX7_hold cX7_hold 4 (some .boolean) 2 46
abbrev iX7_hold := CTi yX7_hold cX7_hold 4 (some .boolean) 2 46
abbrev gX7_hold (mc ms : Nat) := CT yX7_hold cX7_hold 4 (some .boolean) 2 46 mc ms
abbrev pX7_sent := CTp yX7_sent cX7_sent 1 (some .int) 7 165
abbrev iX7_sent := CTi yX7_sent cX7_sent 1 (some .int) 7 165
abbrev gX7_sent (mc ms : Nat) := CT yX7_sent cX7_sent 1 (some .int) 7 165 mc ms
abbrev pX7_best := CTp yX7_best cX7_best 3 (some .int) 7 165
abbrev iX7_best := CTi yX7_best cX7_best 3 (some .int) 7 165
abbrev gX7_best (mc ms : Nat) := CT yX7_best cX7_best 3 (some .int) 7 165 mc ms
abbrev pX7_stepPrice := CTp yX7_stepPrice cX7_stepPrice 2 (some .int) 0 0
abbrev iX7_stepPrice := CTi yX7_stepPrice cX7_stepPrice 2 (some .int) 0 0
abbrev gX7_stepPrice (mc ms : Nat) := CT yX7_stepPrice cX7_stepPrice 2 (some .int) 0 0 mc ms
abbrev pX8_init := CTp yX8_init cX8_init 1 none 1 20
abbrev iX8_init := CTi yX8_init cX8_init 1 none 1 20
abbrev gX8_init (mc ms : Nat) := CT yX8_init cX8_init 1 none 1 20 mc ms
abbrev pX8_isIn := CTp yX8_isIn cX8_isIn 3 (some .boolean) 0 0
abbrev iX8_isIn := CTi yX8_isIn cX8_isIn 3 (some .boolean) 0 0
abbrev gX8_isIn (mc ms : Nat) := CT yX8_isIn cX8_isIn 3 (some .boolean) 0 0 mc ms
abbrev pX8_isVersion := CTp yX8_isVersion cX8_isVersion 2 (some .boolean) 1 22
abbrev iX8_isVersion := CTi yX8_isVersion cX8_isVersion 2 (some .boolean) 1 22
abbrev gX8_isVersion (mc ms : Nat) := CT yX8_isVersion cX8_isVersion 2 (some .boolean) 1 22 mc ms
abbrev pX8_feed := CTp yX8_feed cX8_feed 6 (some .int) 1 22
abbrev iX8_feed := CTi yX8_feed cX8_feed 6 (some .int) 1 22
abbrev gX8_feed (mc ms : Nat) := CT yX8_feed cX8_feed 6 (some .int) 1 22 mc ms
abbrev pX8_four := CTp yX8_four cX8_four 3 none 0 0
abbrev iX8_four := CTi yX8_four cX8_four 3 none 0 0
abbrev gX8_four (mc ms : Nat) := CT yX8_four cX8_four 3 none 0 0 mc ms
abbrev pX8_version := CTp yX8_version cX8_version 4 (some .int) 1 22
abbrev iX8_version := CTi yX8_version cX8_version 4 (some .int) 1 22
abbrev gX8_version (mc ms : Nat) := CT yX8_version cX8_version 4 (some .int) 1 22 mc ms
abbrev pX8_byteOf := CTp yX8_byteOf cX8_byteOf 3 (some .int) 0 0
abbrev iX8_byteOf := CTi yX8_byteOf cX8_byteOf 3 (some .int) 0 0
abbrev gX8_byteOf (mc ms : Nat) := CT yX8_byteOf cX8_byteOf 3 (some .int) 0 0 mc ms
abbrev pX8_told := CTp yX8_told cX8_told 3 (some .int) 2 43
abbrev iX8_told := CTi yX8_told cX8_told 3 (some .int) 2 43
abbrev gX8_told (mc ms : Nat) := CT yX8_told cX8_told 3 (some .int) 2 43 mc ms
abbrev pX8_next := CTp yX8_next cX8_next 2 (some .int) 0 0
abbrev iX8_next := CTi yX8_next cX8_next 2 (some .int) 0 0
abbrev gX8_next (mc ms : Nat) := CT yX8_next cX8_next 2 (some .int) 0 0 mc ms
abbrev pX8_check := CTp yX8_check cX8_check 4 (some .int) 2 43
abbrev iX8_check := CTi yX8_check cX8_check 4 (some .int) 2 43
abbrev gX8_check (mc ms : Nat) := CT yX8_check cX8_check 4 (some .int) 2 43 mc ms
abbrev pX8_apart := CTp yX8_apart cX8_apart 5 (some .int) 1 22
abbrev iX8_apart := CTi yX8_apart cX8_apart 5 (some .int) 1 22
abbrev gX8_apart (mc ms : Nat) := CT yX8_apart cX8_apart 5 (some .int) 1 22 mc ms
abbrev pX8_runAt := CTp yX8_runAt cX8_runAt 3 (some .int) 0 0
abbrev iX8_runAt := CTi yX8_runAt cX8_runAt 3 (some .int) 0 0
abbrev gX8_runAt (mc ms : Nat) := CT yX8_runAt cX8_runAt 3 (some .int) 0 0 mc ms
abbrev pX8_makes := CTp yX8_makes cX8_makes 9 none 3 74
abbrev iX8_makes := CTi yX8_makes cX8_makes 9 none 3 74
abbrev gX8_makes (mc ms : Nat) := CT yX8_makes cX8_makes 9 none 3 74 mc ms
abbrev pX8_takes := CTp yX8_takes cX8_takes 9 (some .boolean) 2 46
abbrev iX8_takes := CTi yX8_takes cX8_takes 9 (some .boolean) 2 46
abbrev gX8_takes (mc ms : Nat) := CT yX8_takes cX8_takes 9 (some .boolean) 2 46 mc ms
abbrev pX8_adds := CTp yX8_adds cX8_adds 4 none 1 21
abbrev iX8_adds := CTi yX8_adds cX8_adds 4 none 1 21
abbrev gX8_adds (mc ms : Nat) := CT yX8_adds cX8_adds 4 none 1 21 mc ms
abbrev pX8_cost := CTp yX8_cost cX8_cost 3 (some .int) 4 102
abbrev iX8_cost := CTi yX8_cost cX8_cost 3 (some .int) 4 102
abbrev gX8_cost (mc ms : Nat) := CT yX8_cost cX8_cost 3 (some .int) 4 102 mc ms
abbrev pX8_step := CTp yX8_step cX8_step 5 (some .int) 4 102
abbrev iX8_step := CTi yX8_step cX8_step 5 (some .int) 4 102
abbrev gX8_step (mc ms : Nat) := CT yX8_step cX8_step 5 (some .int) 4 102 mc ms
abbrev pX8_melt := CTp yX8_melt cX8_melt 9 (some .int) 4 102
abbrev iX8_melt := CTi yX8_melt cX8_melt 9 (some .int) 4 102
abbrev gX8_melt (mc ms : Nat) := CT yX8_melt cX8_melt 9 (some .int) 4 102 mc ms
abbrev pX8_melted := CTp yX8_melted cX8_melted 3 (some .int) 1 22
abbrev iX8_melted := CTi yX8_melted cX8_melted 3 (some .int) 1 22
abbrev gX8_melted (mc ms : Nat) := CT yX8_melted cX8_melted 3 (some .int) 1 22 mc ms
abbrev pX8_keeps := CTp yX8_keeps cX8_keeps 6 (some .int) 0 0
abbrev iX8_keeps := CTi yX8_keeps cX8_keeps 6 (some .int) 0 0
abbrev gX8_keeps (mc ms : Nat) := CT yX8_keeps cX8_keeps 6 (some .int) 0 0 mc ms
abbrev pX8_room := CTp yX8_room cX8_room 6 (some .int) 4 102
abbrev iX8_room := CTi yX8_room cX8_room 6 (some .int) 4 102
abbrev gX8_room (mc ms : Nat) := CT yX8_room cX8_room 6 (some .int) 4 102 mc ms
abbrev pX8_install := CTp yX8_install cX8_install 3 (some .boolean) 2 43
abbrev iX8_install := CTi yX8_install cX8_install 3 (some .boolean) 2 43
abbrev gX8_install (mc ms : Nat) := CT yX8_install cX8_install 3 (some .boolean) 2 43 mc ms
abbrev pX8_checkOfArea := CTp yX8_checkOfArea cX8_checkOfArea 3 (some .int) 1 21
abbrev iX8_checkOfArea := CTi yX8_checkOfArea cX8_checkOfArea 3 (some .int) 1 21
abbrev gX8_checkOfArea (mc ms : Nat) := CT yX8_checkOfArea cX8_checkOfArea 3 (some .int) 1 21 mc ms
abbrev pX8_allWrites := CTp yX8_allWrites cX8_allWrites 1 (some .int) 0 0
abbrev iX8_allWrites := CTi yX8_allWrites cX8_allWrites 1 (some .int) 0 0
abbrev gX8_allWrites (mc ms : Nat) := CT yX8_allWrites cX8_allWrites 1 (some .int) 0 0 mc ms
abbrev pX8_update := CTp yX8_update cX8_update 6 (some .int) 4 102
abbrev iX8_update := CTi yX8_update cX8_update 6 (some .int) 4 102
abbrev gX8_update (mc ms : Nat) := CT yX8_update cX8_update 6 (some .int) 4 102 mc ms
abbrev pX8_writeOne := CTp yX8_writeOne cX8_writeOne 5 none 1 20
abbrev iX8_writeOne := CTi yX8_writeOne cX8_writeOne 5 none 1 20
abbrev gX8_writeOne (mc ms : Nat) := CT yX8_writeOne cX8_writeOne 5 none 1 20 mc ms
abbrev pX8_write := CTp yX8_write cX8_write 3 (some .int) 2 44
abbrev iX8_write := CTi yX8_write cX8_write 3 (some .int) 2 44
abbrev gX8_write (mc ms : Nat) := CT yX8_write cX8_write 3 (some .int) 2 44 mc ms
abbrev pX8_cut := CTp yX8_cut cX8_cut 1 (some .boolean) 0 0
abbrev iX8_cut := CTi yX8_cut cX8_cut 1 (some .boolean) 0 0
abbrev gX8_cut (mc ms : Nat) := CT yX8_cut cX8_cut 1 (some .boolean) 0 0 mc ms
abbrev pX8_on := CTp yX8_on cX8_on 1 (some .int) 1 20
abbrev iX8_on := CTi yX8_on cX8_on 1 (some .int) 1 20
abbrev gX8_on (mc ms : Nat) := CT yX8_on cX8_on 1 (some .int) 1 20 mc ms
abbrev pX8_device := CTp yX8_device cX8_device 2 (some .int) 2 43
abbrev iX8_device := CTi yX8_device cX8_device 2 (some .int) 2 43
abbrev gX8_device (mc ms : Nat) := CT yX8_device cX8_device 2 (some .int) 2 43 mc ms
abbrev pX8_fleet := CTp yX8_fleet cX8_fleet 3 (some .boolean) 2 43
abbrev iX8_fleet := CTi yX8_fleet cX8_fleet 3 (some .boolean) 2 43
abbrev gX8_fleet (mc ms : Nat) := CT yX8_fleet cX8_fleet 3 (some .boolean) 2 43 mc ms
abbrev pX8_pair := CTp yX8_pair cX8_pair 2 (some .int) 0 0
abbrev iX8_pair := CTi yX8_pair cX8_pair 2 (some .int) 0 0
abbrev gX8_pair (mc ms : Nat) := CT yX8_pair cX8_pair 2 (some .int) 0 0 mc ms
abbrev pX8_hold := CTp yX8_hold cX8_hold 4 (some .boolean) 2 43
abbrev iX8_hold := CTi yX8_hold cX8_hold 4 (some .boolean) 2 43
abbrev gX8_hold (mc ms : Nat) := CT yX8_hold cX8_hold 4 (some .boolean) 2 43 mc ms
abbrev pX8_greatest := CTp yX8_greatest cX8_greatest 3 (some .int) 0 0
abbrev iX8_greatest := CTi yX8_greatest cX8_greatest 3 (some .int) 0 0
abbrev gX8_greatest (mc ms : Nat) := CT yX8_greatest cX8_greatest 3 (some .int) 0 0 mc ms
abbrev pX8_pairCosts := CTp yX8_pairCosts cX8_pairCosts 3 none 5 124
abbrev iX8_pairCosts := CTi yX8_pairCosts cX8_pairCosts 3 none 5 124
abbrev gX8_pairCosts (mc ms : Nat) := CT yX8_pairCosts cX8_pairCosts 3 none 5 124 mc ms
abbrev pX8_sentBy := CTp yX8_sentBy cX8_sentBy 6 (some .int) 1 22
abbrev iX8_sentBy := CTi yX8_sentBy cX8_sentBy 6 (some .int) 1 22
abbrev gX8_sentBy (mc ms : Nat) := CT yX8_sentBy cX8_sentBy 6 (some .int) 1 22 mc ms
abbrev pX8_sent := CTp yX8_sent cX8_sent 3 (some .int) 6 146
abbrev iX8_sent := CTi yX8_sent cX8_sent 3 (some .int) 6 146
abbrev gX8_sent (mc ms : Nat) := CT yX8_sent cX8_sent 3 (some .int) 6 146 mc ms
abbrev pX8_pairsIn := CTp yX8_pairsIn cX8_pairsIn 3 (some .int) 0 0
abbrev iX8_pairsIn := CTi yX8_pairsIn cX8_pairsIn 3 (some .int) 0 0
abbrev gX8_pairsIn (mc ms : Nat) := CT yX8_pairsIn cX8_pairsIn 3 (some .int) 0 0 mc ms
abbrev pX8_isLess := CTp yX8_isLess cX8_isLess 4 (some .boolean) 0 0
abbrev iX8_isLess := CTi yX8_isLess cX8_isLess 4 (some .boolean) 0 0
abbrev gX8_isLess (mc ms : Nat) := CT yX8_isLess cX8_isLess 4 (some .boolean) 0 0 mc ms
abbrev pX8_best := CTp yX8_best cX8_best 10 (some .int) 6 146
abbrev iX8_best := CTi yX8_best cX8_best 10 (some .int) 6 146
abbrev gX8_best (mc ms : Nat) := CT yX8_best cX8_best 10 (some .int) 6 146 mc ms
abbrev pX0_init := CTp yX0_init cX0_init 2 none 1 21
abbrev iX0_init := CTi yX0_init cX0_init 2 none 1 21
abbrev gX0_init (mc ms : Nat) := CT yX0_init cX0_init 2 none 1 21 mc ms
abbrev pX0_at := CTp yX0_at cX0_at 2 (some .int) 0 0
abbrev iX0_at := CTi yX0_at cX0_at 2 (some .int) 0 0
abbrev gX0_at (mc ms : Nat) := CT yX0_at cX0_at 2 (some .int) 0 0 mc ms
abbrev pX0_appendFour := CTp yX0_appendFour cX0_appendFour 3 none 0 0
abbrev iX0_appendFour := CTi yX0_appendFour cX0_appendFour 3 none 0 0
abbrev gX0_appendFour (mc ms : Nat) := CT yX0_appendFour cX0_appendFour 3 none 0 0 mc ms
abbrev pX0_takeFirst := CTp yX0_takeFirst cX0_takeFirst 5 none 1 26
abbrev iX0_takeFirst := CTi yX0_takeFirst cX0_takeFirst 5 none 1 26
abbrev gX0_takeFirst (mc ms : Nat) := CT yX0_takeFirst cX0_takeFirst 5 none 1 26 mc ms
abbrev pX0_checksum := CTp yX0_checksum cX0_checksum 3 (some .int) 0 0
abbrev iX0_checksum := CTi yX0_checksum cX0_checksum 3 (some .int) 0 0
abbrev gX0_checksum (mc ms : Nat) := CT yX0_checksum cX0_checksum 3 (some .int) 0 0 mc ms
abbrev pX1_init := CTp yX1_init cX1_init 1 none 2 42
abbrev iX1_init := CTi yX1_init cX1_init 1 none 2 42
abbrev gX1_init (mc ms : Nat) := CT yX1_init cX1_init 1 none 2 42 mc ms
abbrev pX1_load := CTp yX1_load cX1_load 2 none 2 50
abbrev iX1_load := CTi yX1_load cX1_load 2 none 2 50
abbrev gX1_load (mc ms : Nat) := CT yX1_load cX1_load 2 none 2 50 mc ms
abbrev pX1_fits := CTp yX1_fits cX1_fits 2 (some .boolean) 1 22
abbrev iX1_fits := CTi yX1_fits cX1_fits 2 (some .boolean) 1 22
abbrev gX1_fits (mc ms : Nat) := CT yX1_fits cX1_fits 2 (some .boolean) 1 22 mc ms
abbrev pX1_begin := CTp yX1_begin cX1_begin 3 none 2 47
abbrev iX1_begin := CTi yX1_begin cX1_begin 3 none 2 47
abbrev gX1_begin (mc ms : Nat) := CT yX1_begin cX1_begin 3 none 2 47 mc ms
abbrev pX1_endUpdate := CTp yX1_endUpdate cX1_endUpdate 1 none 0 0
abbrev iX1_endUpdate := CTi yX1_endUpdate cX1_endUpdate 1 none 0 0
abbrev gX1_endUpdate (mc ms : Nat) := CT yX1_endUpdate cX1_endUpdate 1 none 0 0 mc ms
abbrev pX1_allWrites := CTp yX1_allWrites cX1_allWrites 1 (some .int) 0 0
abbrev iX1_allWrites := CTi yX1_allWrites cX1_allWrites 1 (some .int) 0 0
abbrev gX1_allWrites (mc ms : Nat) := CT yX1_allWrites cX1_allWrites 1 (some .int) 0 0 mc ms
abbrev pX1_writesLeft := CTp yX1_writesLeft cX1_writesLeft 1 (some .int) 1 20
abbrev iX1_writesLeft := CTi yX1_writesLeft cX1_writesLeft 1 (some .int) 1 20
abbrev gX1_writesLeft (mc ms : Nat) := CT yX1_writesLeft cX1_writesLeft 1 (some .int) 1 20 mc ms
abbrev pX1_makeWrites := CTp yX1_makeWrites cX1_makeWrites 3 (some .int) 4 86
abbrev iX1_makeWrites := CTi yX1_makeWrites cX1_makeWrites 3 (some .int) 4 86
abbrev gX1_makeWrites (mc ms : Nat) := CT yX1_makeWrites cX1_makeWrites 3 (some .int) 4 86 mc ms
abbrev pX1_makeNextWrite := CTp yX1_makeNextWrite cX1_makeNextWrite 3 none 3 64
abbrev iX1_makeNextWrite := CTi yX1_makeNextWrite cX1_makeNextWrite 3 none 3 64
abbrev gX1_makeNextWrite (mc ms : Nat) := CT yX1_makeNextWrite cX1_makeNextWrite 3 none 3 64 mc ms
abbrev pX1_writeNewByte := CTp yX1_writeNewByte cX1_writeNewByte 3 none 2 42
abbrev iX1_writeNewByte := CTi yX1_writeNewByte cX1_writeNewByte 3 none 2 42
abbrev gX1_writeNewByte (mc ms : Nat) := CT yX1_writeNewByte cX1_writeNewByte 3 none 2 42 mc ms
abbrev pX1_oldByte := CTp yX1_oldByte cX1_oldByte 2 (some .int) 1 21
abbrev iX1_oldByte := CTi yX1_oldByte cX1_oldByte 2 (some .int) 1 21
abbrev gX1_oldByte (mc ms : Nat) := CT yX1_oldByte cX1_oldByte 2 (some .int) 1 21 mc ms
abbrev pX1_resume := CTp yX1_resume cX1_resume 1 none 0 0
abbrev iX1_resume := CTi yX1_resume cX1_resume 1 none 0 0
abbrev gX1_resume (mc ms : Nat) := CT yX1_resume cX1_resume 1 none 0 0 mc ms
abbrev pX1_tell := CTp yX1_tell cX1_tell 2 (some .int) 1 22
abbrev iX1_tell := CTi yX1_tell cX1_tell 2 (some .int) 1 22
abbrev gX1_tell (mc ms : Nat) := CT yX1_tell cX1_tell 2 (some .int) 1 22 mc ms
abbrev pX1_areaByte := CTp yX1_areaByte cX1_areaByte 2 (some .int) 0 0
abbrev iX1_areaByte := CTi yX1_areaByte cX1_areaByte 2 (some .int) 0 0
abbrev gX1_areaByte (mc ms : Nat) := CT yX1_areaByte cX1_areaByte 2 (some .int) 0 0 mc ms
abbrev pX2_init := CTp yX2_init cX2_init 1 none 1 20
abbrev iX2_init := CTi yX2_init cX2_init 1 none 1 20
abbrev gX2_init (mc ms : Nat) := CT yX2_init cX2_init 1 none 1 20 mc ms
abbrev pX2_setDevices := CTp yX2_setDevices cX2_setDevices 3 none 0 0
abbrev iX2_setDevices := CTi yX2_setDevices cX2_setDevices 3 none 0 0
abbrev gX2_setDevices (mc ms : Nat) := CT yX2_setDevices cX2_setDevices 3 none 0 0 mc ms
abbrev pX2_holdPair := CTp yX2_holdPair cX2_holdPair 5 (some .boolean) 1 22
abbrev iX2_holdPair := CTi yX2_holdPair cX2_holdPair 5 (some .boolean) 1 22
abbrev gX2_holdPair (mc ms : Nat) := CT yX2_holdPair cX2_holdPair 5 (some .boolean) 1 22 mc ms
abbrev pX2_bitOf := CTp yX2_bitOf cX2_bitOf 3 (some .int) 0 0
abbrev iX2_bitOf := CTi yX2_bitOf cX2_bitOf 3 (some .int) 0 0
abbrev gX2_bitOf (mc ms : Nat) := CT yX2_bitOf cX2_bitOf 3 (some .int) 0 0 mc ms
abbrev pX2_learnPrices := CTp yX2_learnPrices cX2_learnPrices 5 none 6 141
abbrev iX2_learnPrices := CTi yX2_learnPrices cX2_learnPrices 5 none 6 141
abbrev gX2_learnPrices (mc ms : Nat) := CT yX2_learnPrices cX2_learnPrices 5 none 6 141 mc ms
abbrev pX2_sentWith := CTp yX2_sentWith cX2_sentWith 4 (some .int) 1 21
abbrev iX2_sentWith := CTi yX2_sentWith cX2_sentWith 4 (some .int) 1 21
abbrev gX2_sentWith (mc ms : Nat) := CT yX2_sentWith cX2_sentWith 4 (some .int) 1 21 mc ms
abbrev pX2_choose := CTp yX2_choose cX2_choose 3 none 4 91
abbrev iX2_choose := CTi yX2_choose cX2_choose 3 none 4 91
abbrev gX2_choose (mc ms : Nat) := CT yX2_choose cX2_choose 3 none 4 91 mc ms
abbrev pX2_chooseOfSize := CTp yX2_chooseOfSize cX2_chooseOfSize 6 none 3 66
abbrev iX2_chooseOfSize := CTi yX2_chooseOfSize cX2_chooseOfSize 6 none 3 66
abbrev gX2_chooseOfSize (mc ms : Nat) := CT yX2_chooseOfSize cX2_chooseOfSize 6 none 3 66 mc ms
abbrev pX2_consider := CTp yX2_consider cX2_consider 3 none 2 44
abbrev iX2_consider := CTi yX2_consider cX2_consider 3 none 2 44
abbrev gX2_consider (mc ms : Nat) := CT yX2_consider cX2_consider 3 none 2 44 mc ms
abbrev pX3_init := CTp yX3_init cX3_init 1 none 1 20
abbrev iX3_init := CTi yX3_init cX3_init 1 none 1 20
abbrev gX3_init (mc ms : Nat) := CT yX3_init cX3_init 1 none 1 20 mc ms
abbrev pX3_clear := CTp yX3_clear cX3_clear 1 none 0 0
abbrev iX3_clear := CTi yX3_clear cX3_clear 1 none 0 0
abbrev gX3_clear (mc ms : Nat) := CT yX3_clear cX3_clear 1 none 0 0 mc ms
abbrev pX3_append := CTp yX3_append cX3_append 5 none 1 21
abbrev iX3_append := CTi yX3_append cX3_append 5 none 1 21
abbrev gX3_append (mc ms : Nat) := CT yX3_append cX3_append 5 none 1 21 mc ms
abbrev pX3_tell := CTp yX3_tell cX3_tell 3 (some .int) 0 0
abbrev iX3_tell := CTi yX3_tell cX3_tell 3 (some .int) 0 0
abbrev gX3_tell (mc ms : Nat) := CT yX3_tell cX3_tell 3 (some .int) 0 0 mc ms
abbrev pX4_init := CTp yX4_init cX4_init 1 none 1 20
abbrev iX4_init := CTi yX4_init cX4_init 1 none 1 20
abbrev gX4_init (mc ms : Nat) := CT yX4_init cX4_init 1 none 1 20 mc ms
abbrev pX4_plan := CTp yX4_plan cX4_plan 6 none 3 71
abbrev iX4_plan := CTi yX4_plan cX4_plan 6 none 3 71
abbrev gX4_plan (mc ms : Nat) := CT yX4_plan cX4_plan 6 none 3 71 mc ms
abbrev pX4_findRuns := CTp yX4_findRuns cX4_findRuns 10 none 0 0
abbrev iX4_findRuns := CTi yX4_findRuns cX4_findRuns 10 none 0 0
abbrev gX4_findRuns (mc ms : Nat) := CT yX4_findRuns cX4_findRuns 10 none 0 0 mc ms
abbrev pX4_chooseStep := CTp yX4_chooseStep cX4_chooseStep 5 none 2 47
abbrev iX4_chooseStep := CTi yX4_chooseStep cX4_chooseStep 5 none 2 47
abbrev gX4_chooseStep (mc ms : Nat) := CT yX4_chooseStep cX4_chooseStep 5 none 2 47 mc ms
abbrev pX4_tryStep := CTp yX4_tryStep cX4_tryStep 7 none 1 21
abbrev iX4_tryStep := CTi yX4_tryStep cX4_tryStep 7 none 1 21
abbrev gX4_tryStep (mc ms : Nat) := CT yX4_tryStep cX4_tryStep 7 none 1 21 mc ms
abbrev pX5_init := CTp yX5_init cX5_init 2 none 2 42
abbrev iX5_init := CTi yX5_init cX5_init 2 none 2 42
abbrev gX5_init (mc ms : Nat) := CT yX5_init cX5_init 2 none 2 42 mc ms
abbrev pX5_has := CTp yX5_has cX5_has 2 (some .boolean) 0 0
abbrev iX5_has := CTi yX5_has cX5_has 2 (some .boolean) 0 0
abbrev gX5_has (mc ms : Nat) := CT yX5_has cX5_has 2 (some .boolean) 0 0 mc ms
abbrev pX5_bytesOf := CTp yX5_bytesOf cX5_bytesOf 2 (some (.object "PatchBench$Bytes")) 0 0
abbrev iX5_bytesOf := CTi yX5_bytesOf cX5_bytesOf 2 (some (.object "PatchBench$Bytes")) 0 0
abbrev gX5_bytesOf (mc ms : Nat) := CT yX5_bytesOf cX5_bytesOf 2 (some (.object "PatchBench$Bytes")) 0 0 mc ms
abbrev pX5_greatest := CTp yX5_greatest cX5_greatest 2 (some .int) 1 21
abbrev iX5_greatest := CTi yX5_greatest cX5_greatest 2 (some .int) 1 21
abbrev gX5_greatest (mc ms : Nat) := CT yX5_greatest cX5_greatest 2 (some .int) 1 21 mc ms
abbrev pX5_replace := CTp yX5_replace cX5_replace 5 none 2 50
abbrev iX5_replace := CTi yX5_replace cX5_replace 5 none 2 50
abbrev gX5_replace (mc ms : Nat) := CT yX5_replace cX5_replace 5 none 2 50 mc ms
abbrev pX5_patchOf := CTp yX5_patchOf cX5_patchOf 4 (some (.object "PatchBench$Patch")) 4 96
abbrev iX5_patchOf := CTi yX5_patchOf cX5_patchOf 4 (some (.object "PatchBench$Patch")) 4 96
abbrev gX5_patchOf (mc ms : Nat) := CT yX5_patchOf cX5_patchOf 4 (some (.object "PatchBench$Patch")) 4 96 mc ms
abbrev pX5_priceOf := CTp yX5_priceOf cX5_priceOf 3 (some .int) 5 119
abbrev iX5_priceOf := CTi yX5_priceOf cX5_priceOf 3 (some .int) 5 119
abbrev gX5_priceOf (mc ms : Nat) := CT yX5_priceOf cX5_priceOf 3 (some .int) 5 119 mc ms
abbrev pX6_init := CTp yX6_init cX6_init 1 none 1 20
abbrev iX6_init := CTi yX6_init cX6_init 1 none 1 20
abbrev gX6_init (mc ms : Nat) := CT yX6_init cX6_init 1 none 1 20 mc ms
abbrev pX6_follow := CTp yX6_follow cX6_follow 6 none 1 21
abbrev iX6_follow := CTi yX6_follow cX6_follow 6 none 1 21
abbrev gX6_follow (mc ms : Nat) := CT yX6_follow cX6_follow 6 none 1 21 mc ms
abbrev pX6_take := CTp yX6_take cX6_take 2 none 1 26
abbrev iX6_take := CTi yX6_take cX6_take 2 none 1 26
abbrev gX6_take (mc ms : Nat) := CT yX6_take cX6_take 2 none 1 26 mc ms
abbrev pX6_reachThrough := CTp yX6_reachThrough cX6_reachThrough 4 none 0 0
abbrev iX6_reachThrough := CTi yX6_reachThrough cX6_reachThrough 4 none 0 0
abbrev gX6_reachThrough (mc ms : Nat) := CT yX6_reachThrough cX6_reachThrough 4 none 0 0 mc ms
abbrev pX6_gather := CTp yX6_gather cX6_gather 5 none 2 45
abbrev iX6_gather := CTi yX6_gather cX6_gather 5 none 2 45
abbrev gX6_gather (mc ms : Nat) := CT yX6_gather cX6_gather 5 none 2 45 mc ms
abbrev pX6_addedFrom := CTp yX6_addedFrom cX6_addedFrom 3 (some .int) 0 0
abbrev iX6_addedFrom := CTi yX6_addedFrom cX6_addedFrom 3 (some .int) 0 0
abbrev gX6_addedFrom (mc ms : Nat) := CT yX6_addedFrom cX6_addedFrom 3 (some .int) 0 0 mc ms
abbrev pX6_alikeFrom := CTp yX6_alikeFrom cX6_alikeFrom 3 (some .int) 0 0
abbrev iX6_alikeFrom := CTi yX6_alikeFrom cX6_alikeFrom 3 (some .int) 0 0
abbrev gX6_alikeFrom (mc ms : Nat) := CT yX6_alikeFrom cX6_alikeFrom 3 (some .int) 0 0 mc ms
abbrev pX6_countKept := CTp yX6_countKept cX6_countKept 5 (some .int) 1 23
abbrev iX6_countKept := CTi yX6_countKept cX6_countKept 5 (some .int) 1 23
abbrev gX6_countKept (mc ms : Nat) := CT yX6_countKept cX6_countKept 5 (some .int) 1 23 mc ms
abbrev pX6_comesTooLate := CTp yX6_comesTooLate cX6_comesTooLate 4 (some .boolean) 0 0
abbrev iX6_comesTooLate := CTi yX6_comesTooLate cX6_comesTooLate 4 (some .boolean) 0 0
abbrev gX6_comesTooLate (mc ms : Nat) := CT yX6_comesTooLate cX6_comesTooLate 4 (some .boolean) 0 0 mc ms
abbrev pX6_isKept := CTp yX6_isKept cX6_isKept 2 (some .boolean) 0 0
abbrev iX6_isKept := CTi yX6_isKept cX6_isKept 2 (some .boolean) 0 0
abbrev gX6_isKept (mc ms : Nat) := CT yX6_isKept cX6_isKept 2 (some .boolean) 0 0 mc ms
end
section
def ck (f : Nat → Int) : Nat → Int
  | 0 => 1
  | n + 1 => (ck f n * 31 + f n + 1) % 65521
theorem ck_in (f : Nat → Int) : ∀ n, 0 ≤ ck f n ∧ ck f n < 65521
  | 0 => ⟨by show (0 : Int) ≤ 1; decide, by show (1 : Int) < 65521; decide⟩
  | n + 1 => ⟨Int.emod_nonneg _ (by decide), Int.emod_lt_of_pos _ (by decide)⟩
theorem ck_cong {f g : Nat → Int} : ∀ {n : Nat}, (∀ j, j < n → f j = g j) → ck f n = ck g n
  | 0, _ => rfl
  | n + 1, h => by rw [ck, ck, ck_cong (fun j hj => h j (by omega)), h n (by omega)]
theorem mI_mR {I : Nat → Nat → Int} {a k : Nat} {f : Nat → Int} {z : Int} : mI (mR I a f) a k z = mR I a (fun j => if j = k then z else f j) := by
  funext b
  by_cases h : b = a
  · subst h; funext j; rw [mI_row, mR_eq, mR_eq]
  · rw [mI_ne h, mR_ne h, mR_ne h]
theorem mI_mR2 {I : Nat → Nat → Int} {a k : Nat} {z : Int} : mI I a k z = mR I a (fun j => if j = k then z else I a j) := by
  funext b
  by_cases h : b = a
  · subst h; funext j; rw [mI_row, mR_eq]
  · rw [mI_ne h, mR_ne h]
theorem mR_mR {I : Nat → Nat → Int} {a : Nat} {f g : Nat → Int} : mR (mR I a f) a g = mR I a g := by
  funext b
  by_cases h : b = a
  · subst h; rw [mR_eq, mR_eq]
  · rw [mR_ne h, mR_ne h, mR_ne h]
abbrev Mm : Type := (Nat → Nat) × (Nat → Nat) × (Nat → Nat → Option Nat) × (Nat → Nat → Int) × Nat
/-- a new cell of kind t, with n places -/
def nw (t n : Nat) (M : Mm) : Mm := (va_up M.1 (3 + M.2.2.2.2) t, va_up M.2.1 (3 + M.2.2.2.2) n, va_up M.2.2.1 (3 + M.2.2.2.2) (fun _ => none), va_up M.2.2.2.1 (3 + M.2.2.2.2) (fun _ => 0), M.2.2.2.2 + 1)
def pr (k fi q : Nat) (M : Mm) : Mm := (M.1, M.2.1, mP M.2.2.1 k fi (some q), M.2.2.2.1, M.2.2.2.2)
abbrev mH (M : Mm) : Nat := M.2.2.2.2
abbrev isM (M : Mm) : Po := fun r T L P I hn => r = none ∧ (T, L, P, I, hn) = M
/-- a new array of kind t and length n, held in field fi of k -/
def na (k fi t n : Nat) (M : Mm) : Mm := pr k fi (3 + mH M) (nw t n M)
section BYT
variable {T L : Nat → Nat} {P : Nat → Nat → Option Nat} {I : Nat → Nat → Int} {hn a v : Nat}

set_option maxHeartbeats 4000000 in
set_option maxRecDepth 100000 in
theorem k_X0_init {n : Int} {N : Nat} (h0 : 0 ≤ n) (h9 : n ≤ 1000) (hN : n.toNat = N) (h1 : T a = 0) (h2 : a < 3 + hn) : gX0_init 1 N [.inr (some a), .inl n] T L P I hn (isM (na a 0 10 N (T, L, P, I, hn))) := by
  subst hN
  refine CT.by (by decide) (Nat.le_of_ble_eq_true rfl) fun X Y Q hQ K hv => ?_
  refine r_aload_n K dX0_init_0 rfl ?_
  refine r_obj K dX0_init_1 o_X0_3 (Nat.le_of_ble_eq_true rfl) (Nat.le_of_ble_eq_true rfl) ?_
  refine r_aload_n K dX0_init_4 rfl ?_
  refine r_iload_n K dX0_init_5 rfl ?_
  refine r_iconst K dX0_init_6 ?_
  refine r_max K dX0_init_7 m_X0_9 (Nat.le_of_ble_eq_true rfl) (Nat.le_of_ble_eq_true rfl) (Nat.le_of_ble_eq_true rfl) (Nat.le_of_ble_eq_true rfl) ?_
  rw [if_neg (by omega)]
  refine r_newa K dX0_init_10 (Or.inl ⟨rfl, rfl⟩) aw_int (by omega) (by omega) (Nat.le_of_ble_eq_true rfl) (Nat.le_of_eq (Nat.zero_add _)) ?_
  refine r_putR K dX0_init_12 f_X0_15 rfl p_X0_15 ⟨rfl, rfl⟩ (by simp only [va_up]; (repeat rw [if_neg (by omega)]); assumption) ?_
  exact q_vret K hQ rfl dX0_init_15 (Nat.le_refl _) (Nat.le_of_eq (Nat.zero_add _)) (⟨rfl, rfl⟩)
set_option maxHeartbeats 4000000 in
set_option maxRecDepth 100000 in
theorem k_at {i : Int} (h1 : T a = 0) (h2 : P a 0 = some v) (h3 : T v = 10) (h4 : L v < 2147483648) : pX0_at [.inr (some a), .inl i] T L P I hn (.inl (if 0 ≤ i ∧ i < I a 1 ∧ i < L v then I v i.toNat else -1)) := by
  refine CT.by (by decide) (Nat.le_of_ble_eq_true rfl) fun X Y Q hQ K hv => ?_
  refine r_iload_n K dX0_at_0 rfl ?_
  refine r_if_lt K 30 dX0_at_1 (by decide) (fun c1 => ?_) (fun c1 => ?_)
  · refine r_iconst K dX0_at_30 ?_
    exact q_iret K hQ rfl dX0_at_31 (Nat.le_refl _) (Nat.le_refl _) (⟨by first | rw [if_pos (by omega)] | rw [if_neg (by omega)], rfl, rfl, rfl, rfl, rfl⟩)
  · refine r_iload_n K dX0_at_4 rfl ?_
    refine r_aload_n K dX0_at_5 rfl ?_
    refine r_getI K dX0_at_6 f_X0_21 rfl (by assumption) ?_
    refine r_icmp_ge K 30 dX0_at_9 (by decide) (fun c9 => ?_) (fun c9 => ?_)
    · refine r_iconst K dX0_at_30 ?_
      exact q_iret K hQ rfl dX0_at_31 (Nat.le_refl _) (Nat.le_refl _) (⟨by first | rw [if_pos (by omega)] | rw [if_neg (by omega)], rfl, rfl, rfl, rfl, rfl⟩)
    · refine r_iload_n K dX0_at_12 rfl ?_
      refine r_aload_n K dX0_at_13 rfl ?_
      refine r_getR K dX0_at_14 f_X0_15 rfl (by assumption) (by assumption) ?_
      refine r_alen K dX0_at_17 (by assumption) (by omega) ?_
      refine r_icmp_ge K 30 dX0_at_18 (by decide) (fun c18 => ?_) (fun c18 => ?_)
      · refine r_iconst K dX0_at_30 ?_
        exact q_iret K hQ rfl dX0_at_31 (Nat.le_refl _) (Nat.le_refl _) (⟨by first | rw [if_pos (by omega)] | rw [if_neg (by omega)], rfl, rfl, rfl, rfl, rfl⟩)
      · refine r_aload_n K dX0_at_21 rfl ?_
        refine r_getR K dX0_at_22 f_X0_15 rfl (by assumption) (by assumption) ?_
        refine r_iload_n K dX0_at_25 rfl ?_
        refine r_iald K dX0_at_26 (by assumption) (by omega) (by omega) ?_
        refine r_goto K 31 dX0_at_27 (by decide) ?_
        exact q_iret K hQ rfl dX0_at_31 (Nat.le_refl _) (Nat.le_refl _) (⟨by first | rw [if_pos (by omega)] | rw [if_neg (by omega)], rfl, rfl, rfl, rfl, rfl⟩)
set_option maxHeartbeats 4000000 in
set_option maxRecDepth 100000 in
theorem k_checksum (h1 : T a = 0) (h2 : P a 0 = some v) (h3 : T v = 10) (h4 : L v ≤ 1000) (h5 : 0 ≤ I a 1) (h6 : I a 1 ≤ L v) (h7 : ∀ j, j < L v → 0 ≤ I v j ∧ I v j < 256) : pX0_checksum [.inr (some a)] T L P I hn (.inl (ck (I v) (I a 1).toNat)) := by
  refine CT.by (by decide) (Nat.le_of_ble_eq_true rfl) fun X Y Q hQ K hv => ?_
  have loop : ∀ (d : Nat) (i s : Int), 0 ≤ i → i ≤ I a 1 → (I a 1 - i).toNat = d → s = ck (I v) i.toNat → RR X Y Q 0 0 4 [some (.inr (some a)), some (.inl s), some (.inl i)] [] T L P I hn := by
    intro d
    induction d using Nat.strongRecOn with
    | ind d ih =>
      intro i s h8 h9 h10 hs
      have hck := ck_in (I v) i.toNat
      rw [← hs] at hck
      refine r_iload_n K dX0_checksum_4 rfl ?_
      refine r_aload_n K dX0_checksum_5 rfl ?_
      refine r_getI K dX0_checksum_6 f_X0_21 rfl (by assumption) ?_
      refine r_icmp_ge K 35 dX0_checksum_9 (by decide) (fun c9 => ?_) (fun c9 => ?_)
      · refine r_iload_n K dX0_checksum_35 rfl ?_
        exact q_iret K hQ rfl dX0_checksum_36 (Nat.le_refl _) (Nat.le_refl _) (⟨by rw [hs, show i = I a 1 by omega], rfl, rfl, rfl, rfl, rfl⟩)
      · refine r_iload_n K dX0_checksum_12 rfl ?_
        refine r_bipush K dX0_checksum_13 ?_
        refine r_imul K dX0_checksum_15 ?_
        refine r_aload_n K dX0_checksum_16 rfl ?_
        refine r_getR K dX0_checksum_17 f_X0_15 rfl (by assumption) (by assumption) ?_
        refine r_iload_n K dX0_checksum_20 rfl ?_
        refine r_iald K dX0_checksum_21 (by assumption) (by omega) (by omega) ?_
        have hb := h7 i.toNat (by omega)
        refine r_iadd K dX0_checksum_22 ?_
        refine r_iconst K dX0_checksum_23 ?_
        refine r_iadd K dX0_checksum_24 ?_
        refine r_ldc (n := 65521) K dX0_checksum_25 k_X0_34 rfl ?_
        refine r_irem K dX0_checksum_27 (by omega) (by omega) ?_
        refine r_istore_n K dX0_checksum_28 (by decide) ?_
        refine r_iinc K dX0_checksum_29 (by decide) rfl ?_
        refine r_goto K 4 dX0_checksum_32 (by decide) ?_
        exact ih _ (by omega) (i + 1) _ (by omega) (by omega) rfl (by rw [hs, show (i + 1).toNat = i.toNat + 1 by omega]; rfl)
  refine r_iconst K dX0_checksum_0 ?_
  refine r_istore_n K dX0_checksum_1 (by decide) ?_
  refine r_iconst K dX0_checksum_2 ?_
  refine r_istore_n K dX0_checksum_3 (by decide) ?_
  exact loop _ 0 1 (by omega) h5 rfl rfl
set_option maxHeartbeats 4000000 in
set_option maxRecDepth 100000 in
theorem k_takeFirst {b w : Nat} {n : Int} (h1 : T a = 0) (h2 : P a 0 = some v) (h3 : T v = 10) (h4 : L v ≤ 1000) (g1 : T b = 0) (g2 : P b 0 = some w) (g3 : T w = 10) (h5 : 0 ≤ n) (h6 : n ≤ L v) (h7 : n ≤ I b 1) (h8 : I b 1 ≤ L w) : iX0_takeFirst [.inr (some a), .inr (some b), .inl n] T L P I hn (fun r J => r = none ∧ J = mI (mR I v (fun j => if j < n.toNat then I w j else if j < L v then 0 else I v j)) a 1 n) := by
  refine CT.by (by decide) (Nat.le_of_ble_eq_true rfl) fun X Y Q hQ K hv => ?_
  have loop : ∀ (d : Nat) (i : Int) (J : Nat → Nat → Int), n ≤ i → i ≤ L v → ((L v : Int) - i).toNat = d → J = mR I v (fun j => if j < n.toNat then I w j else if j < i.toNat then 0 else I v j) → RR X Y Q 0 0 38 [some (.inr (some a)), some (.inr (some b)), some (.inl n), some (.inl n), some (.inl i)] [] T L P J hn := by
    intro d
    induction d using Nat.strongRecOn with
    | ind d ih =>
      intro i J h9 h10 h11 hJ
      refine r_iload K dX0_takeFirst_38 rfl ?_
      refine r_aload_n K dX0_takeFirst_40 rfl ?_
      refine r_getR K dX0_takeFirst_41 f_X0_15 rfl (by assumption) (by assumption) ?_
      refine r_alen K dX0_takeFirst_44 (by assumption) (by omega) ?_
      refine r_icmp_ge K 62 dX0_takeFirst_45 (by decide) (fun c45 => ?_) (fun c45 => ?_)
      · refine r_aload_n K dX0_takeFirst_62 rfl ?_
        refine r_iload_n K dX0_takeFirst_63 rfl ?_
        refine r_putI K dX0_takeFirst_64 f_X0_21 rfl rfl (Or.inl rfl) (by assumption) ?_
        exact q_vret K hQ rfl dX0_takeFirst_67 (Nat.le_refl _) (Nat.le_refl _) (⟨rfl, rfl, rfl, rfl, rfl, by rw [hJ, show i = (L v : Int) by omega, Int.toNat_natCast]⟩)
      · refine r_aload_n K dX0_takeFirst_48 rfl ?_
        refine r_getR K dX0_takeFirst_49 f_X0_15 rfl (by assumption) (by assumption) ?_
        refine r_iload K dX0_takeFirst_52 rfl ?_
        refine r_iconst K dX0_takeFirst_54 ?_
        refine r_iast K dX0_takeFirst_55 (by assumption) (by omega) (by omega) ?_
        refine r_iinc K dX0_takeFirst_56 (by decide) rfl ?_
        refine r_goto K 38 dX0_takeFirst_59 (by decide) ?_
        refine ih _ (by omega) (i + 1) _ (by omega) (by omega) rfl ?_
        rw [hJ, mI_mR]
        congr 1
        funext j
        by_cases e : j = i.toNat
        · rw [if_pos e, if_neg (by omega), if_pos (by omega)]
        · rw [if_neg e]
          by_cases e2 : j < n.toNat
          · rw [if_pos e2, if_pos e2]
          · rw [if_neg e2, if_neg e2]
            by_cases e3 : j < i.toNat
            · rw [if_pos e3, if_pos (by omega)]
            · rw [if_neg e3, if_neg (by omega)]
  refine r_iconst K dX0_takeFirst_0 ?_
  refine r_iload_n K dX0_takeFirst_1 rfl ?_
  refine r_aload_n K dX0_takeFirst_2 rfl ?_
  refine r_getR K dX0_takeFirst_3 f_X0_15 rfl (by assumption) (by assumption) ?_
  refine r_alen K dX0_takeFirst_6 (by assumption) (by omega) ?_
  refine r_aload_n K dX0_takeFirst_7 rfl ?_
  refine r_getI K dX0_takeFirst_8 f_X0_21 rfl (by assumption) ?_
  refine r_min K dX0_takeFirst_11 m_X0_25 (Nat.le_of_ble_eq_true rfl) (Nat.le_of_ble_eq_true rfl) (Nat.le_of_ble_eq_true rfl) (Nat.le_of_ble_eq_true rfl) ?_
  rw [show (if I b 1 < (L v : Int) then I b 1 else (L v : Int)) = min (I b 1) (L v) by rw [Int.min_def]; split <;> split <;> omega]
  refine r_min K dX0_takeFirst_14 m_X0_25 (Nat.le_of_ble_eq_true rfl) (Nat.le_of_ble_eq_true rfl) (Nat.le_of_ble_eq_true rfl) (Nat.le_of_ble_eq_true rfl) ?_
  rw [if_neg (by omega)]
  refine r_max K dX0_takeFirst_17 m_X0_9 (Nat.le_of_ble_eq_true rfl) (Nat.le_of_ble_eq_true rfl) (Nat.le_of_ble_eq_true rfl) (Nat.le_of_ble_eq_true rfl) ?_
  rw [show (if 0 < n then n else 0) = n by split <;> omega]
  refine r_istore_n K dX0_takeFirst_20 (by decide) ?_
  refine r_aload_n K dX0_takeFirst_21 rfl ?_
  refine r_getR K dX0_takeFirst_22 f_X0_15 rfl (by assumption) (by assumption) ?_
  refine r_iconst K dX0_takeFirst_25 ?_
  refine r_aload_n K dX0_takeFirst_26 rfl ?_
  refine r_getR K dX0_takeFirst_27 f_X0_15 rfl (by assumption) (by assumption) ?_
  refine r_iconst K dX0_takeFirst_30 ?_
  refine r_iload_n K dX0_takeFirst_31 rfl ?_
  refine r_copy K dX0_takeFirst_32 a_X0_28 (by assumption) (by assumption) (by omega) (by omega) (by omega) (Nat.le_of_ble_eq_true rfl) (Nat.le_of_ble_eq_true rfl) ?_
  refine r_iload_n K dX0_takeFirst_35 rfl ?_
  refine r_istore K dX0_takeFirst_36 (by decide) ?_
  exact loop _ n _ (by omega) h6 rfl (by
    congr 1
    funext j
    by_cases e2 : j < n.toNat
    · rw [if_pos e2, if_pos e2]
    · rw [if_neg e2, if_neg e2, if_neg e2])
end BYT
end
section
/-- the cells that the two constructors make: kinds, lengths, references -/
def wT : List Nat := [15, 15, 15, 7, 0, 10, 5, 13, 14, 12, 4, 10, 10, 10, 10, 10, 10, 10, 0, 10, 0, 10, 0, 10, 0, 10, 0, 10, 6, 10, 10, 12, 6, 10, 10, 12, 3, 10, 10, 10, 10, 1, 0, 10, 6, 10, 10, 12, 10, 10, 2, 10, 10, 10, 8, 11, 11, 10, 10, 10, 10, 10, 10, 10, 10, 10, 10, 10, 10, 10, 10, 10, 12, 11, 11, 10, 10, 10, 10, 10, 10, 12, 10, 10]
def wL : List Nat := [0, 10, 10, 0, 0, 200, 0, 5, 25, 25, 0, 120, 120, 121, 120, 120, 120, 120, 0, 120, 0, 120, 0, 120, 0, 120, 0, 120, 0, 120, 120, 120, 0, 120, 120, 120, 0, 120, 120, 120, 120, 0, 0, 120, 0, 120, 120, 120, 120, 120, 0, 5, 10, 5, 0, 200, 600, 5, 14641, 121, 120, 120, 120, 120, 120, 120, 120, 120, 120, 120, 120, 120, 120, 120, 120, 120, 120, 120, 120, 120, 5, 10, 10, 5]
def wP (k : Nat) : List (Option Nat) := match k with
  | 3 => [some 4, some 6, some 28, some 32, some 36, some 41, some 50]
  | 4 => [some 5]
  | 6 => [some 7, some 8, some 9, some 10]
  | 7 => [some 18, some 20, some 22, some 24, some 26]
  | 10 => [some 11, some 12, some 13, some 14, some 15, some 16, some 17]
  | 18 => [some 19]
  | 20 => [some 21]
  | 22 => [some 23]
  | 24 => [some 25]
  | 26 => [some 27]
  | 28 => [some 29, some 30, some 31]
  | 32 => [some 33, some 34, some 35]
  | 36 => [some 37, some 38, some 39, some 40]
  | 41 => [some 42, some 44, some 48, some 49]
  | 42 => [some 43]
  | 44 => [some 45, some 46, some 47]
  | 50 => [some 51, some 52, some 53]
  | 54 => [some 55, none, some 56, some 57, some 58, some 59, some 60, some 61, some 62, some 63, none, none, some 64, some 65, some 66, some 67, some 68, some 69, some 70, some 71, none, some 72, some 73, some 74, none, none, none, none, none, none, none, none, some 75, some 76, some 77, some 78, some 79, some 80, some 81, some 82, some 83]
  | _ => []
def Wd (T L : Nat → Nat) (P : Nat → Nat → Option Nat) : Prop := (∀ k t, wT[k]? = some t → T k = t) ∧ (∀ k n, wL[k]? = some n → 3 ≤ k → L k = n) ∧ (∀ k i q, (wP k)[i]? = some (some q) → P k i = some q) ∧ L 1 = 10 ∧ L 2 = 10
end
section
def spr (k n : Int) : Int := if k = 0 then 4 else if k = 1 then 5 else 1 + n
section PAT
variable {T L : Nat → Nat} {P : Nat → Nat → Option Nat} {I : Nat → Nat → Int} {hn a k0 k1 k2 k3 : Nat}

set_option maxHeartbeats 4000000 in
set_option maxRecDepth 100000 in
theorem k_stepPrice {kd n : Int} (hk : kd = 0 ∨ kd = 1 ∨ kd = 2) (h1 : 0 ≤ n) (h2 : n ≤ 1000) : pX7_stepPrice [.inl kd, .inl n] T L P I hn (.inl (spr kd n)) := by
  refine CT.by (by decide) (Nat.le_of_ble_eq_true rfl) fun X Y Q hQ K hv => ?_
  refine r_iload_n K dX7_stepPrice_0 rfl ?_
  rcases hk with rfl | rfl | rfl
  · refine r_lookup K 28 dX7_stepPrice_1 rfl rfl (by decide) ?_
    refine r_iconst K dX7_stepPrice_28 ?_
    exact q_iret K hQ rfl dX7_stepPrice_29 (Nat.le_refl _) (Nat.le_refl _) (⟨rfl, rfl, rfl, rfl, rfl, rfl⟩)
  · refine r_lookup K 30 dX7_stepPrice_1 rfl rfl (by decide) ?_
    refine r_iconst K dX7_stepPrice_30 ?_
    exact q_iret K hQ rfl dX7_stepPrice_31 (Nat.le_refl _) (Nat.le_refl _) (⟨rfl, rfl, rfl, rfl, rfl, rfl⟩)
  · refine r_lookup K 32 dX7_stepPrice_1 rfl rfl (by decide) ?_
    refine r_iconst K dX7_stepPrice_32 ?_
    refine r_iload_n K dX7_stepPrice_33 rfl ?_
    refine r_iadd K dX7_stepPrice_34 ?_
    exact q_iret K hQ rfl dX7_stepPrice_35 (Nat.le_refl _) (Nat.le_refl _) (⟨rfl, rfl, rfl, rfl, rfl, rfl⟩)
set_option maxHeartbeats 4000000 in
set_option maxRecDepth 100000 in
theorem k_X3_clear (h1 : T a = 3) : iX3_clear [.inr (some a)] T L P I hn (fun r J => r = none ∧ J = mI (mI I a 4 0) a 5 3) := by
  refine CT.by (by decide) (Nat.le_of_ble_eq_true rfl) fun X Y Q hQ K hv => ?_
  refine r_aload_n K dX3_clear_0 rfl ?_
  refine r_iconst K dX3_clear_1 ?_
  refine r_putI K dX3_clear_2 f_X3_24 rfl rfl (Or.inl rfl) (by assumption) ?_
  refine r_aload_n K dX3_clear_5 rfl ?_
  refine r_iconst K dX3_clear_6 ?_
  refine r_putI K dX3_clear_7 f_X3_28 rfl rfl (Or.inl rfl) (by assumption) ?_
  exact q_vret K hQ rfl dX3_clear_10 (Nat.le_refl _) (Nat.le_refl _) (⟨rfl, rfl, rfl, rfl, rfl, rfl⟩)
set_option maxHeartbeats 4000000 in
set_option maxRecDepth 100000 in
theorem k_X3_append {kd n p d : Int} (h1 : T a = 3) (p0 : P a 0 = some k0) (p1 : P a 1 = some k1) (p2 : P a 2 = some k2) (p3 : P a 3 = some k3) (t0 : T k0 = 10) (t1 : T k1 = 10) (t2 : T k2 = 10) (t3 : T k3 = 10) (l0 : L k0 = 120) (l1 : L k1 = 120) (l2 : L k2 = 120) (l3 : L k3 = 120) (hk : kd = 0 ∨ kd = 1 ∨ kd = 2) (hs0 : 0 ≤ I a 4) (hs1 : I a 4 < 120) (hp0 : 0 ≤ I a 5) (hp1 : I a 5 ≤ 100000) (hn0 : 0 ≤ n) (hn1 : n ≤ 120) : iX3_append [.inr (some a), .inl kd, .inl n, .inl p, .inl d] T L P I hn (fun r J => r = none ∧ J = mI (mI (mI (mI (mI (mI I k0 (I a 4).toNat kd) k1 (I a 4).toNat n) k2 (I a 4).toNat p) k3 (I a 4).toNat d) a 4 (I a 4 + 1)) a 5 (I a 5 + spr kd n)) := by
  refine CT.by (by decide) (Nat.le_of_ble_eq_true rfl) fun X Y Q hQ K hv => ?_
  have e0 : a ≠ k0 := fun e => by rw [e] at h1; omega
  have e1 : a ≠ k1 := fun e => by rw [e] at h1; omega
  have e2 : a ≠ k2 := fun e => by rw [e] at h1; omega
  have e3 : a ≠ k3 := fun e => by rw [e] at h1; omega
  have hsp : 0 ≤ spr kd n ∧ spr kd n ≤ 121 := by
    unfold spr
    rcases hk with rfl | rfl | rfl <;> simp <;> omega
  refine r_aload_n K dX3_append_0 rfl ?_
  refine r_getI K dX3_append_1 f_X3_24 rfl (by assumption) ?_
  refine r_bipush K dX3_append_4 ?_
  refine r_icmp_lt K 10 dX3_append_6 (by decide) (fun c6 => ?_) (fun c6 => ?_)
  · refine r_aload_n K dX3_append_10 rfl ?_
    refine r_getR K dX3_append_11 f_X3_9 rfl (by assumption) (by assumption) ?_
    refine r_aload_n K dX3_append_14 rfl ?_
    refine r_getI K dX3_append_15 f_X3_24 rfl (by assumption) ?_
    refine r_iload_n K dX3_append_18 rfl ?_
    refine r_iast K dX3_append_19 (by assumption) (by omega) (by omega) ?_
    refine r_aload_n K dX3_append_20 rfl ?_
    refine r_getR K dX3_append_21 f_X3_15 rfl (by assumption) (by assumption) ?_
    try simp only [mI_row, mI_ne, mR_eq, mR_ne, ne_eq, not_false_eq_true, e0, e1, e2, e3]
    refine r_aload_n K dX3_append_24 rfl ?_
    refine r_getI K dX3_append_25 f_X3_24 rfl (by assumption) ?_
    try simp only [mI_row, mI_ne, mR_eq, mR_ne, ne_eq, not_false_eq_true, e0, e1, e2, e3]
    refine r_iload_n K dX3_append_28 rfl ?_
    refine r_iast K dX3_append_29 (by assumption) (by omega) (by omega) ?_
    refine r_aload_n K dX3_append_30 rfl ?_
    refine r_getR K dX3_append_31 f_X3_18 rfl (by assumption) (by assumption) ?_
    try simp only [mI_row, mI_ne, mR_eq, mR_ne, ne_eq, not_false_eq_true, e0, e1, e2, e3]
    refine r_aload_n K dX3_append_34 rfl ?_
    refine r_getI K dX3_append_35 f_X3_24 rfl (by assumption) ?_
    try simp only [mI_row, mI_ne, mR_eq, mR_ne, ne_eq, not_false_eq_true, e0, e1, e2, e3]
    refine r_iload_n K dX3_append_38 rfl ?_
    refine r_iast K dX3_append_39 (by assumption) (by omega) (by omega) ?_
    refine r_aload_n K dX3_append_40 rfl ?_
    refine r_getR K dX3_append_41 f_X3_21 rfl (by assumption) (by assumption) ?_
    try simp only [mI_row, mI_ne, mR_eq, mR_ne, ne_eq, not_false_eq_true, e0, e1, e2, e3]
    refine r_aload_n K dX3_append_44 rfl ?_
    refine r_getI K dX3_append_45 f_X3_24 rfl (by assumption) ?_
    try simp only [mI_row, mI_ne, mR_eq, mR_ne, ne_eq, not_false_eq_true, e0, e1, e2, e3]
    refine r_iload K dX3_append_48 rfl ?_
    refine r_iast K dX3_append_50 (by assumption) (by omega) (by omega) ?_
    refine r_aload_n K dX3_append_51 rfl ?_
    refine r_dup K dX3_append_52 ?_
    refine r_getI K dX3_append_53 f_X3_24 rfl (by assumption) ?_
    try simp only [mI_row, mI_ne, mR_eq, mR_ne, ne_eq, not_false_eq_true, e0, e1, e2, e3]
    refine r_iconst K dX3_append_56 ?_
    refine r_iadd K dX3_append_57 ?_
    refine r_putI K dX3_append_58 f_X3_24 rfl rfl (Or.inl rfl) (by assumption) ?_
    refine r_aload_n K dX3_append_61 rfl ?_
    refine r_dup K dX3_append_62 ?_
    refine r_getI K dX3_append_63 f_X3_28 rfl (by assumption) ?_
    try simp only [mI_row, mI_ne, mR_eq, mR_ne, ne_eq, not_false_eq_true, e0, e1, e2, e3]
    refine r_iload_n K dX3_append_66 rfl ?_
    refine r_iload_n K dX3_append_67 rfl ?_
    refine rcS2p K dX3_append_68 c_X3_31 s_X7_stepPrice (k_stepPrice hk hn0 (by omega)) (by decide) (Nat.le_of_ble_eq_true rfl) ?_
    refine r_iadd K dX3_append_71 ?_
    refine r_putI K dX3_append_72 f_X3_28 rfl rfl (Or.inl rfl) (by assumption) ?_
    exact q_vret K hQ rfl dX3_append_75 (Nat.le_refl _) (Nat.le_refl _) (⟨rfl, rfl, rfl, rfl, rfl, rfl⟩)
  · exact absurd c6 (by omega)
/-- what a patch's tell answers: its steps, and what step k is -/
def ptell (st : Int) (f0 f1 f2 f3 : Nat → Int) (k what : Int) : Int :=
  if k = -1 then st else if k < 0 ∨ st ≤ k then -1 else if what = 0 then f0 k.toNat else if what = 1 then f1 k.toNat else if what = 2 then f2 k.toNat else if what = 3 then f3 k.toNat else -1
set_option maxHeartbeats 4000000 in
set_option maxRecDepth 100000 in
theorem k_X3_tell {k what : Int} (h1 : T a = 3) (p0 : P a 0 = some k0) (p1 : P a 1 = some k1) (p2 : P a 2 = some k2) (p3 : P a 3 = some k3) (t0 : T k0 = 10) (t1 : T k1 = 10) (t2 : T k2 = 10) (t3 : T k3 = 10) (l0 : L k0 = 120) (l1 : L k1 = 120) (l2 : L k2 = 120) (l3 : L k3 = 120) (hs1 : I a 4 ≤ 120) : pX3_tell [.inr (some a), .inl k, .inl what] T L P I hn (.inl (ptell (I a 4) (I k0) (I k1) (I k2) (I k3) k what)) := by
  refine CT.by (by decide) (Nat.le_of_ble_eq_true rfl) fun X Y Q hQ K hv => ?_
  refine r_iload_n K dX3_tell_0 rfl ?_
  refine r_iconst K dX3_tell_1 ?_
  refine r_icmp_ne K 10 dX3_tell_2 (by decide) (fun c2 => ?_) (fun c2 => ?_)
  · refine r_iload_n K dX3_tell_10 rfl ?_
    refine r_if_lt K 22 dX3_tell_11 (by decide) (fun c11 => ?_) (fun c11 => ?_)
    · refine r_iconst K dX3_tell_22 ?_
      exact q_iret K hQ rfl dX3_tell_23 (Nat.le_refl _) (Nat.le_refl _) (⟨by simp only [ptell]; rw [if_neg (by omega), if_pos (by omega)], rfl, rfl, rfl, rfl, rfl⟩)
    · refine r_iload_n K dX3_tell_14 rfl ?_
      refine r_aload_n K dX3_tell_15 rfl ?_
      refine r_getI K dX3_tell_16 f_X3_24 rfl (by assumption) ?_
      refine r_icmp_lt K 24 dX3_tell_19 (by decide) (fun c19 => ?_) (fun c19 => ?_)
      · refine r_iload_n K dX3_tell_24 rfl ?_
        rcases (by omega : what = 0 ∨ what = 1 ∨ what = 2 ∨ what = 3 ∨ (what < 0 ∨ 3 < what)) with hw | hw | hw | hw | hw
        · refine r_tableIn K 56 dX3_tell_25 (by omega) (by omega) (by rw [show what = 0 by omega]; rfl) (by decide) ?_
          refine r_aload_n K dX3_tell_56 rfl ?_
          refine r_getR K dX3_tell_57 f_X3_9 rfl (by assumption) (by assumption) ?_
          refine r_iload_n K dX3_tell_60 rfl ?_
          refine r_iald K dX3_tell_61 (by assumption) (by omega) (by omega) ?_
          exact q_iret K hQ rfl dX3_tell_62 (Nat.le_refl _) (Nat.le_refl _) (⟨by simp only [ptell]; rw [if_neg (by omega), if_neg (by omega), if_pos (by omega)], rfl, rfl, rfl, rfl, rfl⟩)
        · refine r_tableIn K 63 dX3_tell_25 (by omega) (by omega) (by rw [show what = 1 by omega]; rfl) (by decide) ?_
          refine r_aload_n K dX3_tell_63 rfl ?_
          refine r_getR K dX3_tell_64 f_X3_15 rfl (by assumption) (by assumption) ?_
          refine r_iload_n K dX3_tell_67 rfl ?_
          refine r_iald K dX3_tell_68 (by assumption) (by omega) (by omega) ?_
          exact q_iret K hQ rfl dX3_tell_69 (Nat.le_refl _) (Nat.le_refl _) (⟨by simp only [ptell]; rw [if_neg (by omega), if_neg (by omega), if_neg (by omega), if_pos (by omega)], rfl, rfl, rfl, rfl, rfl⟩)
        · refine r_tableIn K 70 dX3_tell_25 (by omega) (by omega) (by rw [show what = 2 by omega]; rfl) (by decide) ?_
          refine r_aload_n K dX3_tell_70 rfl ?_
          refine r_getR K dX3_tell_71 f_X3_18 rfl (by assumption) (by assumption) ?_
          refine r_iload_n K dX3_tell_74 rfl ?_
          refine r_iald K dX3_tell_75 (by assumption) (by omega) (by omega) ?_
          exact q_iret K hQ rfl dX3_tell_76 (Nat.le_refl _) (Nat.le_refl _) (⟨by simp only [ptell]; rw [if_neg (by omega), if_neg (by omega), if_neg (by omega), if_neg (by omega), if_pos (by omega)], rfl, rfl, rfl, rfl, rfl⟩)
        · refine r_tableIn K 77 dX3_tell_25 (by omega) (by omega) (by rw [show what = 3 by omega]; rfl) (by decide) ?_
          refine r_aload_n K dX3_tell_77 rfl ?_
          refine r_getR K dX3_tell_78 f_X3_21 rfl (by assumption) (by assumption) ?_
          refine r_iload_n K dX3_tell_81 rfl ?_
          refine r_iald K dX3_tell_82 (by assumption) (by omega) (by omega) ?_
          exact q_iret K hQ rfl dX3_tell_83 (Nat.le_refl _) (Nat.le_refl _) (⟨by simp only [ptell]; rw [if_neg (by omega), if_neg (by omega), if_neg (by omega), if_neg (by omega), if_neg (by omega), if_pos (by omega)], rfl, rfl, rfl, rfl, rfl⟩)
        · refine r_tableOut K 84 dX3_tell_25 hw (by decide) ?_
          refine r_iconst K dX3_tell_84 ?_
          exact q_iret K hQ rfl dX3_tell_85 (Nat.le_refl _) (Nat.le_refl _) (⟨by simp only [ptell]; rw [if_neg (by omega), if_neg (by omega), if_neg (by omega), if_neg (by omega), if_neg (by omega), if_neg (by omega)], rfl, rfl, rfl, rfl, rfl⟩)
      · refine r_iconst K dX3_tell_22 ?_
        exact q_iret K hQ rfl dX3_tell_23 (Nat.le_refl _) (Nat.le_refl _) (⟨by simp only [ptell]; rw [if_neg (by omega), if_pos (by omega)], rfl, rfl, rfl, rfl, rfl⟩)
  · refine r_aload_n K dX3_tell_5 rfl ?_
    refine r_getI K dX3_tell_6 f_X3_24 rfl (by assumption) ?_
    exact q_iret K hQ rfl dX3_tell_9 (Nat.le_refl _) (Nat.le_refl _) (⟨by simp only [ptell]; rw [if_pos (by omega)], rfl, rfl, rfl, rfl, rfl⟩)
end PAT
end
section
/-! the planner's mathematics -/
theorem zAnd_255 {x : Int} (h : rg x) : zAnd x 255 = x % 256 := by
  have e : (Int32.ofInt x &&& Int32.ofInt 255) = nI ((Int32.ofInt x).toBitVec.toNat % 2 ^ 8) := pk_and _ 8 (by decide)
  unfold zAnd
  rw [e, nI_toInt (by omega)]
  have e2 : ((Int32.ofInt x).toBitVec.toNat : Int) = x % 4294967296 := by
    have : (Int32.ofInt x).toBitVec = BitVec.ofInt 32 x := rfl
    rw [this, BitVec.toNat_ofInt]
    omega
  omega
def ap (A B : Nat → Int) (i p : Nat) : Int := (B i - A p) % 256
def rnd (A B : Nat → Int) (m n : Nat) : Nat → Nat → Int
  | 0, _ => 0
  | d + 1, p => if p < m then (if 0 < d ∧ p + 1 < m ∧ ap A B (n - d) (p + 1) = ap A B (n - (d + 1)) p then 1 + rnd A B m n d (p + 1) else 1) else 0
/-- how many bytes from new byte i and old byte p on differ by the same gap -/
def rn (A B : Nat → Int) (m n i p : Nat) : Int := rnd A B m n (n - i) p
theorem rn_eq {A B : Nat → Int} {m n i p : Nat} (h : i < n) : rn A B m n i p = if p < m then (if i + 1 < n ∧ p + 1 < m ∧ ap A B (i + 1) (p + 1) = ap A B i p then 1 + rn A B m n (i + 1) (p + 1) else 1) else 0 := by
  obtain ⟨d, hd⟩ : ∃ d, n - i = d + 1 := ⟨n - i - 1, by omega⟩
  unfold rn
  rw [hd, show n - (i + 1) = d by omega]
  simp only [rnd]
  rw [show n - (d + 1) = i by omega]
  by_cases h0 : 0 < d
  · rw [show n - d = i + 1 by omega]
    have : (0 < d ∧ p + 1 < m ∧ ap A B (i + 1) (p + 1) = ap A B i p) ↔ (i + 1 < n ∧ p + 1 < m ∧ ap A B (i + 1) (p + 1) = ap A B i p) := by
      constructor
      · rintro ⟨a, b⟩; exact ⟨by omega, b⟩
      · rintro ⟨a, b⟩; exact ⟨by omega, b⟩
    simp only [this]
  · have z : d = 0 := by omega
    subst z
    simp only [Nat.lt_irrefl, false_and, if_false]
    rw [if_neg (c := i + 1 < n ∧ p + 1 < m ∧ ap A B (i + 1) (p + 1) = ap A B i p) (fun h => by omega)]
theorem rnd_in (A B : Nat → Int) (m n : Nat) : ∀ d p, 0 ≤ rnd A B m n d p ∧ rnd A B m n d p ≤ d ∧ (p ≤ m → rnd A B m n d p ≤ (m : Int) - p)
  | 0, p => by simp only [rnd]; omega
  | d + 1, p => by
    have ih := rnd_in A B m n d (p + 1)
    simp only [rnd]
    split
    · split
      · refine ⟨by omega, by omega, fun _ => ?_⟩
        have := ih.2.2 (by omega)
        omega
      · exact ⟨by omega, by omega, fun _ => by omega⟩
    · exact ⟨by omega, by omega, fun _ => by omega⟩
theorem rn_in (A B : Nat → Int) (m n i p : Nat) : 0 ≤ rn A B m n i p ∧ rn A B m n i p ≤ (n - i : Nat) ∧ (p ≤ m → rn A B m n i p ≤ (m : Int) - p) := rnd_in A B m n (n - i) p
/-- the first place of the longest run among those that c takes -/
def mx (c : Nat → Bool) (r : Nat → Int) : Nat → Int × Nat
  | 0 => (0, 0)
  | p + 1 => if c p = true ∧ (mx c r p).1 < r p then (r p, p) else mx c r p
theorem mx_in (c : Nat → Bool) (r : Nat → Int) : ∀ p, 0 ≤ (mx c r p).1 ∧ (0 < (mx c r p).1 → (mx c r p).2 < p ∧ c (mx c r p).2 = true ∧ r (mx c r p).2 = (mx c r p).1 ∧ ∀ q, q < (mx c r p).2 → c q = true → r q < (mx c r p).1) ∧ ∀ q, q < p → c q = true → r q ≤ (mx c r p).1
  | 0 => ⟨by simp [mx], fun h => absurd h (by simp [mx]), fun q h => absurd h (by omega)⟩
  | p + 1 => by
    have ih := mx_in c r p
    simp only [mx]
    split
    · rename_i h
      refine ⟨by simp only; omega, fun _ => ⟨by simp only; omega, h.1, rfl, fun q hq hc => ?_⟩, fun q hq hc => ?_⟩
      · simp only at hq ⊢
        have := ih.2.2 q hq hc
        omega
      · simp only
        rcases Nat.lt_or_ge q p with e | e
        · have := ih.2.2 q e hc; omega
        · have : q = p := by omega
          subst this; omega
    · rename_i h
      refine ⟨ih.1, fun h0 => ?_, fun q hq hc => ?_⟩
      · obtain ⟨a, b, c', d⟩ := ih.2.1 h0
        exact ⟨by omega, b, c', d⟩
      · rcases Nat.lt_or_ge q p with e | e
        · exact ih.2.2 q e hc
        · have : q = p := by omega
          subst this
          rcases Int.lt_or_le (mx c r q).1 (r q) with e2 | e2
          · exact absurd ⟨hc, e2⟩ h
          · exact e2
def isC (A B : Nat → Int) (i : Nat) : Nat → Bool := fun p => decide (ap A B i p = 0)
def isS (A B : Nat → Int) (i : Nat) : Nat → Bool := fun p => decide (ap A B i p ≠ 0)
def cpy (A B : Nat → Int) (m n i : Nat) : Int × Nat := mx (isC A B i) (rn A B m n i) m
def shf (A B : Nat → Int) (m n i : Nat) : Int × Nat := mx (isS A B i) (rn A B m n i) m
section PLN
variable {T L : Nat → Nat} {P : Nat → Nat → Option Nat} {I : Nat → Nat → Int} {hn o ov f fv m n i : Nat}
/-- the planner's row behind p places, at new byte i -/
def fInv (I : Nat → Nat → Int) (A B : Nat → Int) (m n i p : Nat) (J : Nat → Nat → Int) : Prop :=
  (∀ b, b ≠ 10 → b ≠ 11 → b ≠ 12 → J b = I b) ∧ (∀ j, j < 7 ∨ 10 < j → J 10 j = I 10 j) ∧ (∀ q, q < p → J 12 q = ap A B i q ∧ J 11 q = rn A B m n i q) ∧ (∀ q, p ≤ q → J 12 q = I 12 q ∧ J 11 q = I 11 q) ∧
  J 10 7 = (mx (isC A B i) (rn A B m n i) p).1 ∧ (0 < J 10 7 → J 10 8 = (mx (isC A B i) (rn A B m n i) p).2) ∧ J 10 9 = (mx (isS A B i) (rn A B m n i) p).1 ∧ (0 < J 10 9 → J 10 10 = (mx (isS A B i) (rn A B m n i) p).2)

theorem fStep {A B : Nat → Int} {p : Nat} {J J1 : Nat → Nat → Int} (hJ : fInv I A B m n i p J) (a1 : ∀ b, b ≠ 10 → b ≠ 11 → b ≠ 12 → J1 b = J b) (a2 : ∀ j, j < 7 ∨ 10 < j → J1 10 j = J 10 j) (a3 : ∀ q, J1 12 q = if q = p then ap A B i p else J 12 q) (a4 : ∀ q, J1 11 q = if q = p then rn A B m n i p else J 11 q)
    (a5 : (ap A B i p = 0 ∧ J 10 7 < rn A B m n i p ∧ J1 10 7 = rn A B m n i p ∧ J1 10 8 = p ∧ J1 10 9 = J 10 9 ∧ J1 10 10 = J 10 10) ∨ (ap A B i p ≠ 0 ∧ J 10 9 < rn A B m n i p ∧ J1 10 9 = rn A B m n i p ∧ J1 10 10 = p ∧ J1 10 7 = J 10 7 ∧ J1 10 8 = J 10 8) ∨ ((ap A B i p ≠ 0 ∨ rn A B m n i p ≤ J 10 7) ∧ (ap A B i p = 0 ∨ rn A B m n i p ≤ J 10 9) ∧ J1 10 7 = J 10 7 ∧ J1 10 8 = J 10 8 ∧ J1 10 9 = J 10 9 ∧ J1 10 10 = J 10 10)) : fInv I A B m n i (p + 1) J1 := by
  obtain ⟨f1, f2, f3, f4, f5, f6, f7, f8⟩ := hJ
  refine ⟨fun b h1 h2 h3 => (a1 b h1 h2 h3).trans (f1 b h1 h2 h3), fun j hj => (a2 j hj).trans (f2 j hj), fun q hq => ?_, fun q hq => ?_, ?_⟩
  · rw [a3, a4]
    by_cases e : q = p
    · rw [if_pos e, if_pos e, e]; exact ⟨rfl, rfl⟩
    · rw [if_neg e, if_neg e]; exact f3 q (by omega)
  · rw [a3, a4, if_neg (by omega), if_neg (by omega)]; exact f4 q (by omega)
  · have ec : (isC A B i p = true ∧ (mx (isC A B i) (rn A B m n i) p).1 < rn A B m n i p) ↔ (ap A B i p = 0 ∧ J 10 7 < rn A B m n i p) := by rw [f5]; simp [isC]
    have es : (isS A B i p = true ∧ (mx (isS A B i) (rn A B m n i) p).1 < rn A B m n i p) ↔ (ap A B i p ≠ 0 ∧ J 10 9 < rn A B m n i p) := by rw [f7]; simp [isS]
    simp only [mx]
    rcases a5 with ⟨g1, g2, g3, g4, g5, g6⟩ | ⟨g1, g2, g3, g4, g5, g6⟩ | ⟨g1, g2, g3, g4, g5, g6⟩
    · rw [if_pos (ec.mpr ⟨g1, g2⟩), if_neg (fun h => (es.mp h).1 g1), g3, g4, g5, g6]
      exact ⟨rfl, fun _ => rfl, f7, f8⟩
    · rw [if_pos (es.mpr ⟨g1, g2⟩), if_neg (fun h => g1 (ec.mp h).1), g3, g4, g5, g6]
      exact ⟨f5, f6, rfl, fun _ => rfl⟩
    · rw [if_neg (fun h => by have := ec.mp h; omega), if_neg (fun h => by have := es.mp h; omega), g3, g4, g5, g6]
      exact ⟨f5, f6, f7, f8⟩
set_option maxHeartbeats 4000000 in
set_option maxRecDepth 100000 in
theorem k_findRuns (hW : Wd T L P) (ho : T o = 0) (po : P o 0 = some ov) (hov : T ov = 10) (lov : m ≤ L ov) (co : I o 1 = m) (hm : m ≤ 120) (hf : T f = 0) (pf : P f 0 = some fv) (hfv : T fv = 10) (lfv : n ≤ L fv) (cf : I f 1 = n) (hn0 : n ≤ 120) (hi : i < n) (no : o ≠ 10) (nf : f ≠ 10) (no1 : o ≠ 11) (no2 : o ≠ 12) (nf1 : f ≠ 11) (nf2 : f ≠ 12) (hov10 : ov ≠ 10) (nov1 : ov ≠ 11) (nov2 : ov ≠ 12) (hfv10 : fv ≠ 10) (nfv1 : fv ≠ 11) (nfv2 : fv ≠ 12)
    (hA0 : ∀ j, j < m → 0 ≤ I ov j ∧ I ov j < 256) (hB0 : ∀ j, j < n → 0 ≤ I fv j ∧ I fv j < 256) (hpre : i + 1 < n → ∀ q, q < m → I 12 q = ap (I ov) (I fv) (i + 1) q ∧ I 11 q = rn (I ov) (I fv) m n (i + 1) q) :
    iX4_findRuns [.inr (some 10), .inr (some o), .inr (some f), .inl (i : Int)] T L P I hn (fun r J => r = none ∧ fInv I (I ov) (I fv) m n i m J) := by
  refine CT.by (by decide) (Nat.le_of_ble_eq_true rfl) fun X Y Q hQ K hv => ?_
  have l11 : L 11 = 120 := hW.2.1 11 120 rfl (by decide)
  have l12 : L 12 = 120 := hW.2.1 12 120 rfl (by decide)
  have hB := hB0 i hi
  have loop : ∀ (d p : Nat) (z : Int) (J : Nat → Nat → Int) (lst : Int) (g7 g8 g9 : Option PV), z = p → m - p = d → p ≤ m → (lst = 0 ∧ i + 1 < n ∨ lst = 1 ∧ n ≤ i + 1) → fInv I (I ov) (I fv) m n i p J → RR X Y Q 0 0 38 [some (.inr (some 10)), some (.inr (some o)), some (.inr (some f)), some (.inl (i : Int)), some (.inl lst), some (.inl (I fv i)), some (.inl z), g7, g8, g9] [] T L P J hn := by
    intro d
    induction d using Nat.strongRecOn with
    | ind d ih =>
      intro p z J lst g7 g8 g9 hz hd hp hlst hJ
      subst hz
      have ep : ((p : Int) + 1).toNat = p + 1 := by omega
      obtain ⟨hf1, hf2, hf3, hf4, hf5, hf6, hf7, hf8⟩ := id hJ
      have jo : J o 1 = m := by rw [hf1 o no no1 no2]; exact co
      have jov : J ov = I ov := hf1 ov hov10 nov1 nov2
      have j195 : ∀ (J1 : Nat → Nat → Int) (g7 g8 g9 : Option PV), fInv I (I ov) (I fv) m n i (p + 1) J1 → p < m → RR X Y Q 0 0 195 [some (.inr (some 10)), some (.inr (some o)), some (.inr (some f)), some (.inl (i : Int)), some (.inl lst), some (.inl (I fv i)), some (.inl (p : Int)), g7, g8, g9] [] T L P J1 hn := by
        intro J1 g7 g8 g9 hJ1 hpm
        refine r_iinc K dX4_findRuns_195 (by decide) rfl ?_
        refine r_goto K 38 dX4_findRuns_198 (by decide) ?_
        exact ih _ (by omega) (p + 1) _ J1 lst g7 g8 g9 (by omega) rfl (by omega) hlst hJ1
      have j120 : p < m → ∀ (g8 g9 : Option PV), RR X Y Q 0 0 120 [some (.inr (some 10)), some (.inr (some o)), some (.inr (some f)), some (.inl (i : Int)), some (.inl lst), some (.inl (I fv i)), some (.inl (p : Int)), some (.inl (ap (I ov) (I fv) i p)), g8, g9] [.inl (rn (I ov) (I fv) m n i p)] T L P J hn := by
        intro hpm g8 g9
        have hrr := rn_in (I ov) (I fv) m n i p
        have h0 := mx_in (isC (I ov) (I fv) i) (rn (I ov) (I fv) m n i) p
        have h1 := mx_in (isS (I ov) (I fv) i) (rn (I ov) (I fv) m n i) p
        refine r_istore K dX4_findRuns_120 (by decide) ?_
        refine r_aload_n K dX4_findRuns_122 rfl ?_
        refine r_getR K dX4_findRuns_123 f_X4_15 rfl (by first | assumption | exact hW.1 _ _ rfl | exact hW.2.2.1 _ _ _ rfl) (by first | assumption | exact hW.1 _ _ rfl | exact hW.2.2.1 _ _ _ rfl) ?_
        try simp only [mI_row, mI_ne, mR_eq, mR_ne, ne_eq, not_false_eq_true, Int.toNat_natCast, ep, no, nf, nov1, nov2, nfv1, nfv2, Nat.reduceEqDiff, reduceCtorEq]
        refine r_iload K dX4_findRuns_126 rfl ?_
        refine r_iload K dX4_findRuns_128 rfl ?_
        refine r_iast K dX4_findRuns_130 (by first | assumption | exact hW.1 _ _ rfl | exact hW.2.2.1 _ _ _ rfl) (by omega) (by omega) ?_
        refine r_aload_n K dX4_findRuns_131 rfl ?_
        refine r_getR K dX4_findRuns_132 f_X4_9 rfl (by first | assumption | exact hW.1 _ _ rfl | exact hW.2.2.1 _ _ _ rfl) (by first | assumption | exact hW.1 _ _ rfl | exact hW.2.2.1 _ _ _ rfl) ?_
        try simp only [mI_row, mI_ne, mR_eq, mR_ne, ne_eq, not_false_eq_true, Int.toNat_natCast, ep, no, nf, nov1, nov2, nfv1, nfv2, Nat.reduceEqDiff, reduceCtorEq]
        refine r_iload K dX4_findRuns_135 rfl ?_
        refine r_iload K dX4_findRuns_137 rfl ?_
        refine r_iast K dX4_findRuns_139 (by first | assumption | exact hW.1 _ _ rfl | exact hW.2.2.1 _ _ _ rfl) (by omega) (by omega) ?_
        refine r_iload K dX4_findRuns_140 rfl ?_
        refine r_if_ne K 169 dX4_findRuns_142 (by decide) (fun c142 => ?_) (fun c142 => ?_)
        · refine r_iload K dX4_findRuns_169 rfl ?_
          refine r_if_eq K 195 dX4_findRuns_171 (by decide) (fun c171 => ?_) (fun c171 => ?_)
          · first
              | (exfalso; omega)
              | (refine j195 _ _ _ _ (fStep hJ (fun b h1 h2 h3 => ?_) (fun j hj => ?_) (fun q => ?_) (fun q => ?_) ?_) hpm
                 · simp only [mI_ne, ne_eq, h1, h2, h3, not_false_eq_true]
                 · simp only [mI_row, mI_ne, ne_eq, not_false_eq_true, Nat.reduceEqDiff]
                   try (rw [if_neg (by omega)])
                   try (rw [if_neg (by omega)])
                 · simp only [mI_row, mI_ne, ne_eq, not_false_eq_true, Nat.reduceEqDiff, Int.toNat_natCast]
                 · simp only [mI_row, mI_ne, ne_eq, not_false_eq_true, Nat.reduceEqDiff, Int.toNat_natCast]
                 · simp only [mI_row, mI_ne, ne_eq, not_false_eq_true, Nat.reduceEqDiff, if_true, if_false, ↓reduceIte, and_true, true_and, and_self]
                   omega)
          · refine r_iload K dX4_findRuns_174 rfl ?_
            refine r_aload_n K dX4_findRuns_176 rfl ?_
            refine r_getI K dX4_findRuns_177 f_X4_62 rfl (by first | assumption | exact hW.1 _ _ rfl | exact hW.2.2.1 _ _ _ rfl) ?_
            try simp only [mI_row, mI_ne, mR_eq, mR_ne, ne_eq, not_false_eq_true, Int.toNat_natCast, ep, no, nf, nov1, nov2, nfv1, nfv2, Nat.reduceEqDiff, reduceCtorEq]
            refine r_icmp_le K 195 dX4_findRuns_180 (by decide) (fun c180 => ?_) (fun c180 => ?_)
            · first
                | (exfalso; omega)
                | (refine j195 _ _ _ _ (fStep hJ (fun b h1 h2 h3 => ?_) (fun j hj => ?_) (fun q => ?_) (fun q => ?_) ?_) hpm
                   · simp only [mI_ne, ne_eq, h1, h2, h3, not_false_eq_true]
                   · simp only [mI_row, mI_ne, ne_eq, not_false_eq_true, Nat.reduceEqDiff]
                     try (rw [if_neg (by omega)])
                     try (rw [if_neg (by omega)])
                   · simp only [mI_row, mI_ne, ne_eq, not_false_eq_true, Nat.reduceEqDiff, Int.toNat_natCast]
                   · simp only [mI_row, mI_ne, ne_eq, not_false_eq_true, Nat.reduceEqDiff, Int.toNat_natCast]
                   · simp only [mI_row, mI_ne, ne_eq, not_false_eq_true, Nat.reduceEqDiff, if_true, if_false, ↓reduceIte, and_true, true_and, and_self]
                     omega)
            · refine r_aload_n K dX4_findRuns_183 rfl ?_
              refine r_iload K dX4_findRuns_184 rfl ?_
              refine r_putI K dX4_findRuns_186 f_X4_62 rfl rfl (Or.inl rfl) (by first | assumption | exact hW.1 _ _ rfl | exact hW.2.2.1 _ _ _ rfl) ?_
              refine r_aload_n K dX4_findRuns_189 rfl ?_
              refine r_iload K dX4_findRuns_190 rfl ?_
              refine r_putI K dX4_findRuns_192 f_X4_68 rfl rfl (Or.inl rfl) (by first | assumption | exact hW.1 _ _ rfl | exact hW.2.2.1 _ _ _ rfl) ?_
              first
                | (exfalso; omega)
                | (refine j195 _ _ _ _ (fStep hJ (fun b h1 h2 h3 => ?_) (fun j hj => ?_) (fun q => ?_) (fun q => ?_) ?_) hpm
                   · simp only [mI_ne, ne_eq, h1, h2, h3, not_false_eq_true]
                   · simp only [mI_row, mI_ne, ne_eq, not_false_eq_true, Nat.reduceEqDiff]
                     try (rw [if_neg (by omega)])
                     try (rw [if_neg (by omega)])
                   · simp only [mI_row, mI_ne, ne_eq, not_false_eq_true, Nat.reduceEqDiff, Int.toNat_natCast]
                   · simp only [mI_row, mI_ne, ne_eq, not_false_eq_true, Nat.reduceEqDiff, Int.toNat_natCast]
                   · simp only [mI_row, mI_ne, ne_eq, not_false_eq_true, Nat.reduceEqDiff, if_true, if_false, ↓reduceIte, and_true, true_and, and_self]
                     omega)
        · refine r_iload K dX4_findRuns_145 rfl ?_
          refine r_aload_n K dX4_findRuns_147 rfl ?_
          refine r_getI K dX4_findRuns_148 f_X4_59 rfl (by first | assumption | exact hW.1 _ _ rfl | exact hW.2.2.1 _ _ _ rfl) ?_
          try simp only [mI_row, mI_ne, mR_eq, mR_ne, ne_eq, not_false_eq_true, Int.toNat_natCast, ep, no, nf, nov1, nov2, nfv1, nfv2, Nat.reduceEqDiff, reduceCtorEq]
          refine r_icmp_le K 169 dX4_findRuns_151 (by decide) (fun c151 => ?_) (fun c151 => ?_)
          · refine r_iload K dX4_findRuns_169 rfl ?_
            refine r_if_eq K 195 dX4_findRuns_171 (by decide) (fun c171 => ?_) (fun c171 => ?_)
            · first
                | (exfalso; omega)
                | (refine j195 _ _ _ _ (fStep hJ (fun b h1 h2 h3 => ?_) (fun j hj => ?_) (fun q => ?_) (fun q => ?_) ?_) hpm
                   · simp only [mI_ne, ne_eq, h1, h2, h3, not_false_eq_true]
                   · simp only [mI_row, mI_ne, ne_eq, not_false_eq_true, Nat.reduceEqDiff]
                     try (rw [if_neg (by omega)])
                     try (rw [if_neg (by omega)])
                   · simp only [mI_row, mI_ne, ne_eq, not_false_eq_true, Nat.reduceEqDiff, Int.toNat_natCast]
                   · simp only [mI_row, mI_ne, ne_eq, not_false_eq_true, Nat.reduceEqDiff, Int.toNat_natCast]
                   · simp only [mI_row, mI_ne, ne_eq, not_false_eq_true, Nat.reduceEqDiff, if_true, if_false, ↓reduceIte, and_true, true_and, and_self]
                     omega)
            · refine r_iload K dX4_findRuns_174 rfl ?_
              refine r_aload_n K dX4_findRuns_176 rfl ?_
              refine r_getI K dX4_findRuns_177 f_X4_62 rfl (by first | assumption | exact hW.1 _ _ rfl | exact hW.2.2.1 _ _ _ rfl) ?_
              try simp only [mI_row, mI_ne, mR_eq, mR_ne, ne_eq, not_false_eq_true, Int.toNat_natCast, ep, no, nf, nov1, nov2, nfv1, nfv2, Nat.reduceEqDiff, reduceCtorEq]
              refine r_icmp_le K 195 dX4_findRuns_180 (by decide) (fun c180 => ?_) (fun c180 => ?_)
              · first
                  | (exfalso; omega)
                  | (refine j195 _ _ _ _ (fStep hJ (fun b h1 h2 h3 => ?_) (fun j hj => ?_) (fun q => ?_) (fun q => ?_) ?_) hpm
                     · simp only [mI_ne, ne_eq, h1, h2, h3, not_false_eq_true]
                     · simp only [mI_row, mI_ne, ne_eq, not_false_eq_true, Nat.reduceEqDiff]
                       try (rw [if_neg (by omega)])
                       try (rw [if_neg (by omega)])
                     · simp only [mI_row, mI_ne, ne_eq, not_false_eq_true, Nat.reduceEqDiff, Int.toNat_natCast]
                     · simp only [mI_row, mI_ne, ne_eq, not_false_eq_true, Nat.reduceEqDiff, Int.toNat_natCast]
                     · simp only [mI_row, mI_ne, ne_eq, not_false_eq_true, Nat.reduceEqDiff, if_true, if_false, ↓reduceIte, and_true, true_and, and_self]
                       omega)
              · refine r_aload_n K dX4_findRuns_183 rfl ?_
                refine r_iload K dX4_findRuns_184 rfl ?_
                refine r_putI K dX4_findRuns_186 f_X4_62 rfl rfl (Or.inl rfl) (by first | assumption | exact hW.1 _ _ rfl | exact hW.2.2.1 _ _ _ rfl) ?_
                refine r_aload_n K dX4_findRuns_189 rfl ?_
                refine r_iload K dX4_findRuns_190 rfl ?_
                refine r_putI K dX4_findRuns_192 f_X4_68 rfl rfl (Or.inl rfl) (by first | assumption | exact hW.1 _ _ rfl | exact hW.2.2.1 _ _ _ rfl) ?_
                first
                  | (exfalso; omega)
                  | (refine j195 _ _ _ _ (fStep hJ (fun b h1 h2 h3 => ?_) (fun j hj => ?_) (fun q => ?_) (fun q => ?_) ?_) hpm
                     · simp only [mI_ne, ne_eq, h1, h2, h3, not_false_eq_true]
                     · simp only [mI_row, mI_ne, ne_eq, not_false_eq_true, Nat.reduceEqDiff]
                       try (rw [if_neg (by omega)])
                       try (rw [if_neg (by omega)])
                     · simp only [mI_row, mI_ne, ne_eq, not_false_eq_true, Nat.reduceEqDiff, Int.toNat_natCast]
                     · simp only [mI_row, mI_ne, ne_eq, not_false_eq_true, Nat.reduceEqDiff, Int.toNat_natCast]
                     · simp only [mI_row, mI_ne, ne_eq, not_false_eq_true, Nat.reduceEqDiff, if_true, if_false, ↓reduceIte, and_true, true_and, and_self]
                       omega)
          · refine r_aload_n K dX4_findRuns_154 rfl ?_
            refine r_iload K dX4_findRuns_155 rfl ?_
            refine r_putI K dX4_findRuns_157 f_X4_59 rfl rfl (Or.inl rfl) (by first | assumption | exact hW.1 _ _ rfl | exact hW.2.2.1 _ _ _ rfl) ?_
            refine r_aload_n K dX4_findRuns_160 rfl ?_
            refine r_iload K dX4_findRuns_161 rfl ?_
            refine r_putI K dX4_findRuns_163 f_X4_65 rfl rfl (Or.inl rfl) (by first | assumption | exact hW.1 _ _ rfl | exact hW.2.2.1 _ _ _ rfl) ?_
            refine r_goto K 195 dX4_findRuns_166 (by decide) ?_
            first
              | (exfalso; omega)
              | (refine j195 _ _ _ _ (fStep hJ (fun b h1 h2 h3 => ?_) (fun j hj => ?_) (fun q => ?_) (fun q => ?_) ?_) hpm
                 · simp only [mI_ne, ne_eq, h1, h2, h3, not_false_eq_true]
                 · simp only [mI_row, mI_ne, ne_eq, not_false_eq_true, Nat.reduceEqDiff]
                   try (rw [if_neg (by omega)])
                   try (rw [if_neg (by omega)])
                 · simp only [mI_row, mI_ne, ne_eq, not_false_eq_true, Nat.reduceEqDiff, Int.toNat_natCast]
                 · simp only [mI_row, mI_ne, ne_eq, not_false_eq_true, Nat.reduceEqDiff, Int.toNat_natCast]
                 · simp only [mI_row, mI_ne, ne_eq, not_false_eq_true, Nat.reduceEqDiff, if_true, if_false, ↓reduceIte, and_true, true_and, and_self]
                   omega)
      have j98 : p < m → ∀ (z : Int) (g8 g9 : Option PV), (z = 1 ∧ i + 1 < n ∧ p + 1 < m ∧ ap (I ov) (I fv) (i + 1) (p + 1) = ap (I ov) (I fv) i p) ∨ (z = 0 ∧ ¬ (i + 1 < n ∧ p + 1 < m ∧ ap (I ov) (I fv) (i + 1) (p + 1) = ap (I ov) (I fv) i p)) → RR X Y Q 0 0 98 [some (.inr (some 10)), some (.inr (some o)), some (.inr (some f)), some (.inl (i : Int)), some (.inl lst), some (.inl (I fv i)), some (.inl (p : Int)), some (.inl (ap (I ov) (I fv) i p)), g8, g9] [.inl z] T L P J hn := by
        intro hpm z g8 g9 hz
        refine r_istore K dX4_findRuns_98 (by decide) ?_
        refine r_iload K dX4_findRuns_100 rfl ?_
        refine r_if_eq K 119 dX4_findRuns_102 (by decide) (fun c102 => ?_) (fun c102 => ?_)
        · have hzz : rn (I ov) (I fv) m n i p = 1 := by
            rw [rn_eq hi, if_pos hpm, if_neg (by rcases hz with h | h; exact absurd c102 (by omega); exact h.2)]
          refine r_iconst K dX4_findRuns_119 ?_
          rw [← hzz]
          exact j120 hpm _ _
        · have hzz : rn (I ov) (I fv) m n i p = rn (I ov) (I fv) m n (i + 1) (p + 1) + 1 := by
            rw [rn_eq hi, if_pos hpm, if_pos (by rcases hz with h | h; exact h.2; exact absurd h.1 c102), Int.add_comm]
          have hq : i + 1 < n ∧ p + 1 < m := by rcases hz with h | h; exact ⟨h.2.1, h.2.2.1⟩; exact absurd h.1 c102
          have hrr := rn_in (I ov) (I fv) m n (i + 1) (p + 1)
          refine r_aload_n K dX4_findRuns_105 rfl ?_
          refine r_getR K dX4_findRuns_106 f_X4_9 rfl (by first | assumption | exact hW.1 _ _ rfl | exact hW.2.2.1 _ _ _ rfl) (by first | assumption | exact hW.1 _ _ rfl | exact hW.2.2.1 _ _ _ rfl) ?_
          try simp only [mI_row, mI_ne, mR_eq, mR_ne, ne_eq, not_false_eq_true, Int.toNat_natCast, ep, no, nf, nov1, nov2, nfv1, nfv2, Nat.reduceEqDiff, reduceCtorEq]
          refine r_iload K dX4_findRuns_109 rfl ?_
          refine r_iconst K dX4_findRuns_111 ?_
          refine r_iadd K dX4_findRuns_112 ?_
          refine r_iald K dX4_findRuns_113 (by first | assumption | exact hW.1 _ _ rfl | exact hW.2.2.1 _ _ _ rfl) (by omega) (by omega) ?_
          try simp only [mI_row, mI_ne, mR_eq, mR_ne, ne_eq, not_false_eq_true, Int.toNat_natCast, ep, no, nf, nov1, nov2, nfv1, nfv2, Nat.reduceEqDiff, reduceCtorEq]
          rw [(hf4 (p + 1) (by omega)).2, (hpre hq.1 (p + 1) hq.2).2]
          refine r_iconst K dX4_findRuns_114 ?_
          refine r_iadd K dX4_findRuns_115 ?_
          refine r_goto K 120 dX4_findRuns_116 (by decide) ?_
          rw [← hzz]
          exact j120 hpm _ _
      refine r_iload K dX4_findRuns_38 rfl ?_
      refine r_aload_n K dX4_findRuns_40 rfl ?_
      refine r_getI K dX4_findRuns_41 f_X4_33 rfl (by first | assumption | exact hW.1 _ _ rfl | exact hW.2.2.1 _ _ _ rfl) ?_
      try simp only [mI_row, mI_ne, mR_eq, mR_ne, ne_eq, not_false_eq_true, Int.toNat_natCast, ep, no, nf, nov1, nov2, nfv1, nfv2, Nat.reduceEqDiff, reduceCtorEq]
      rw [jo]
      refine r_icmp_ge K 201 dX4_findRuns_44 (by decide) (fun c44 => ?_) (fun c44 => ?_)
      · exact q_vret K hQ rfl dX4_findRuns_201 (Nat.le_refl _) (Nat.le_refl _) ⟨rfl, rfl, rfl, rfl, rfl, by rw [show p = m by omega] at hJ; exact hJ⟩
      · refine r_iload K dX4_findRuns_47 rfl ?_
        refine r_aload_n K dX4_findRuns_49 rfl ?_
        refine r_getR K dX4_findRuns_50 f_X4_56 rfl (by first | assumption | exact hW.1 _ _ rfl | exact hW.2.2.1 _ _ _ rfl) (by first | assumption | exact hW.1 _ _ rfl | exact hW.2.2.1 _ _ _ rfl) ?_
        try simp only [mI_row, mI_ne, mR_eq, mR_ne, ne_eq, not_false_eq_true, Int.toNat_natCast, ep, no, nf, nov1, nov2, nfv1, nfv2, Nat.reduceEqDiff, reduceCtorEq]
        skip
        refine r_iload K dX4_findRuns_53 rfl ?_
        refine r_iald K dX4_findRuns_55 (by first | assumption | exact hW.1 _ _ rfl | exact hW.2.2.1 _ _ _ rfl) (by omega) (by omega) ?_
        try simp only [mI_row, mI_ne, mR_eq, mR_ne, ne_eq, not_false_eq_true, Int.toNat_natCast, ep, no, nf, nov1, nov2, nfv1, nfv2, Nat.reduceEqDiff, reduceCtorEq]
        rw [hf1 ov hov10 nov1 nov2]
        have hA := hA0 p (by omega)
        refine r_isub K dX4_findRuns_56 ?_
        refine r_sipush K dX4_findRuns_57 ?_
        refine r_iand K dX4_findRuns_60 ?_
        rw [zAnd_255 (show rg _ from ⟨by omega, by omega⟩)]
        have hgp : (I fv i - I ov p) % 256 = ap (I ov) (I fv) i p := rfl
        rw [hgp]
        have hgr : 0 ≤ ap (I ov) (I fv) i p ∧ ap (I ov) (I fv) i p < 256 := ⟨Int.emod_nonneg _ (by decide), Int.emod_lt_of_pos _ (by decide)⟩
        refine r_istore K dX4_findRuns_61 (by decide) ?_
        refine r_iload K dX4_findRuns_63 rfl ?_
        refine r_if_ne K 97 dX4_findRuns_65 (by decide) (fun c65 => ?_) (fun c65 => ?_)
        · have hl1 : n ≤ i + 1 := by rcases hlst with h | h; exact absurd h.1 c65; exact h.2
          refine r_iconst K dX4_findRuns_97 ?_
          exact j98 (by omega) 0 _ _ (Or.inr ⟨rfl, by omega⟩)
        · have hl1 : i + 1 < n := by rcases hlst with h | h; exact h.2; exact absurd c65 (by omega)
          refine r_iload K dX4_findRuns_68 rfl ?_
          refine r_iconst K dX4_findRuns_70 ?_
          refine r_iadd K dX4_findRuns_71 ?_
          refine r_aload_n K dX4_findRuns_72 rfl ?_
          refine r_getI K dX4_findRuns_73 f_X4_33 rfl (by first | assumption | exact hW.1 _ _ rfl | exact hW.2.2.1 _ _ _ rfl) ?_
          try simp only [mI_row, mI_ne, mR_eq, mR_ne, ne_eq, not_false_eq_true, Int.toNat_natCast, ep, no, nf, nov1, nov2, nfv1, nfv2, Nat.reduceEqDiff, reduceCtorEq]
          rw [jo]
          refine r_icmp_ge K 97 dX4_findRuns_76 (by decide) (fun c76 => ?_) (fun c76 => ?_)
          · refine r_iconst K dX4_findRuns_97 ?_
            exact j98 (by omega) 0 _ _ (Or.inr ⟨rfl, by omega⟩)
          · refine r_aload_n K dX4_findRuns_79 rfl ?_
            refine r_getR K dX4_findRuns_80 f_X4_15 rfl (by first | assumption | exact hW.1 _ _ rfl | exact hW.2.2.1 _ _ _ rfl) (by first | assumption | exact hW.1 _ _ rfl | exact hW.2.2.1 _ _ _ rfl) ?_
            try simp only [mI_row, mI_ne, mR_eq, mR_ne, ne_eq, not_false_eq_true, Int.toNat_natCast, ep, no, nf, nov1, nov2, nfv1, nfv2, Nat.reduceEqDiff, reduceCtorEq]
            refine r_iload K dX4_findRuns_83 rfl ?_
            refine r_iconst K dX4_findRuns_85 ?_
            refine r_iadd K dX4_findRuns_86 ?_
            refine r_iald K dX4_findRuns_87 (by first | assumption | exact hW.1 _ _ rfl | exact hW.2.2.1 _ _ _ rfl) (by omega) (by omega) ?_
            try simp only [mI_row, mI_ne, mR_eq, mR_ne, ne_eq, not_false_eq_true, Int.toNat_natCast, ep, no, nf, nov1, nov2, nfv1, nfv2, Nat.reduceEqDiff, reduceCtorEq]
            rw [(hf4 (p + 1) (by omega)).1, (hpre hl1 (p + 1) (by omega)).1]
            refine r_iload K dX4_findRuns_88 rfl ?_
            refine r_icmp_ne K 97 dX4_findRuns_90 (by decide) (fun c90 => ?_) (fun c90 => ?_)
            · refine r_iconst K dX4_findRuns_97 ?_
              exact j98 (by omega) 0 _ _ (Or.inr ⟨rfl, by omega⟩)
            · refine r_iconst K dX4_findRuns_93 ?_
              refine r_goto K 98 dX4_findRuns_94 (by decide) ?_
              exact j98 (by omega) 1 _ _ (Or.inl ⟨rfl, hl1, by omega, c90⟩)
  have j15 : ∀ lst : Int, (lst = 0 ∧ i + 1 < n ∨ lst = 1 ∧ n ≤ i + 1) → RR X Y Q 0 0 15 (ls0 [.inr (some 10), .inr (some o), .inr (some f), .inl (i : Int)] 10) [.inl lst] T L P I hn := by
    intro lst hlst
    refine r_istore K dX4_findRuns_15 (by decide) ?_
    refine r_aload_n K dX4_findRuns_17 rfl ?_
    refine r_getR K dX4_findRuns_18 f_X4_56 rfl (by first | assumption | exact hW.1 _ _ rfl | exact hW.2.2.1 _ _ _ rfl) (by first | assumption | exact hW.1 _ _ rfl | exact hW.2.2.1 _ _ _ rfl) ?_
    refine r_iload_n K dX4_findRuns_21 rfl ?_
    refine r_iald K dX4_findRuns_22 (by first | assumption | exact hW.1 _ _ rfl | exact hW.2.2.1 _ _ _ rfl) (by omega) (by omega) ?_
    simp only [Int.toNat_natCast]
    refine r_istore K dX4_findRuns_23 (by decide) ?_
    refine r_aload_n K dX4_findRuns_25 rfl ?_
    refine r_iconst K dX4_findRuns_26 ?_
    refine r_putI K dX4_findRuns_27 f_X4_59 rfl rfl (Or.inl rfl) (by first | assumption | exact hW.1 _ _ rfl | exact hW.2.2.1 _ _ _ rfl) ?_
    refine r_aload_n K dX4_findRuns_30 rfl ?_
    refine r_iconst K dX4_findRuns_31 ?_
    refine r_putI K dX4_findRuns_32 f_X4_62 rfl rfl (Or.inl rfl) (by first | assumption | exact hW.1 _ _ rfl | exact hW.2.2.1 _ _ _ rfl) ?_
    refine r_iconst K dX4_findRuns_35 ?_
    refine r_istore K dX4_findRuns_36 (by decide) ?_
    refine loop _ 0 0 _ lst _ _ _ rfl rfl (by omega) hlst ⟨fun b h1 h2 h3 => ?_, fun j hj => ?_, fun q hq => absurd hq (by omega), fun q hq => ⟨?_, ?_⟩, ?_, fun h => ?_, ?_, fun h => ?_⟩
    · simp only [mI_ne, ne_eq, h1, not_false_eq_true]
    · simp only [mI_row]
      rw [if_neg (by omega), if_neg (by omega)]
    · simp only [mI_ne, ne_eq, not_false_eq_true, Nat.reduceEqDiff]
    · simp only [mI_ne, ne_eq, not_false_eq_true, Nat.reduceEqDiff]
    · simp [mI_row, mx]
    · simp [mI_row] at h
    · simp [mI_row, mx]
    · simp [mI_row] at h
  refine r_iload_n K dX4_findRuns_0 rfl ?_
  refine r_iconst K dX4_findRuns_1 ?_
  refine r_iadd K dX4_findRuns_2 ?_
  refine r_aload_n K dX4_findRuns_3 rfl ?_
  refine r_getI K dX4_findRuns_4 f_X4_33 rfl (by first | assumption | exact hW.1 _ _ rfl | exact hW.2.2.1 _ _ _ rfl) ?_
  refine r_icmp_lt K 14 dX4_findRuns_7 (by decide) (fun c7 => ?_) (fun c7 => ?_)
  · refine r_iconst K dX4_findRuns_14 ?_
    exact j15 _ (by omega)
  · refine r_iconst K dX4_findRuns_10 ?_
    refine r_goto K 15 dX4_findRuns_11 (by decide) ?_
    exact j15 _ (by omega)
end PLN
end
section
theorem mI_off {I : Nat → Nat → Int} {a i b j : Nat} {z : Int} (h : j ≠ i) : mI I a i z b j = I b j := by
  by_cases e : b = a
  · subst e; exact mI_nj h
  · rw [mI_ne e]
/-- a step that is tried: cost, kind, length, place, shift -/
abbrev Ch : Type := Int × Int × Int × Int × Int
def try1 (c : Ch) (kd n p d tot : Int) : Ch := if tot ≤ c.1 then (tot, kd, n, p, d) else c
def adC (f : Nat → Int) (i : Nat) (c : Ch) : Nat → Ch
  | 0 => c
  | k + 1 => try1 (adC f i c k) 2 ((k : Int) + 1) i 0 (1 + ((k : Int) + 1) + f (i + k + 1))
def c2 (f : Nat → Int) (i : Nat) (c : Ch) (cr cf sr sf g : Int) : Ch :=
  let c1 := if 0 < sr then try1 c 1 sr sf g (5 + f (i + sr.toNat)) else c
  if 0 < cr then try1 c1 0 cr cf 0 (4 + f (i + cr.toNat)) else c1
theorem adC_cong {f g : Nat → Int} {i : Nat} {c : Ch} : ∀ {k : Nat}, (∀ j, i < j → j ≤ i + k → f j = g j) → adC f i c k = adC g i c k
  | 0, _ => rfl
  | k + 1, h => by
    rw [adC, adC, adC_cong (fun j h1 h2 => h j h1 (by omega)), h (i + k + 1) (by omega) (by omega)]
theorem adC_stale {f : Nat → Int} {i : Nat} {c c' : Ch} (hc : c.1 = 1000000) (hc' : c'.1 = 1000000) (h : f (i + 1) ≤ 999998) : ∀ k, adC f i c (k + 1) = adC f i c' (k + 1)
  | 0 => by
    simp only [adC, try1, hc, hc', Nat.add_zero]
    rw [if_pos (by omega), if_pos (by omega)]
  | k + 1 => by rw [adC, adC_stale hc hc' h k]; rfl
def stp (A B : Nat → Int) (m n : Nat) (f : Nat → Int) (i : Nat) : Ch :=
  c2 f i (adC f i (1000000, 0, 0, 0, 0) (min 30 (n - i))) (cpy A B m n i).1 (cpy A B m n i).2 (shf A B m n i).1 (shf A B m n i).2 (ap A B i (shf A B m n i).2)
theorem cpy_in (A B : Nat → Int) (m n i : Nat) : 0 ≤ (cpy A B m n i).1 ∧ (cpy A B m n i).1 ≤ (n - i : Nat) ∧ (0 < (cpy A B m n i).1 → (cpy A B m n i).2 < m ∧ ap A B i (cpy A B m n i).2 = 0 ∧ rn A B m n i (cpy A B m n i).2 = (cpy A B m n i).1) := by
  have h := mx_in (isC A B i) (rn A B m n i) m
  have key : 0 < (cpy A B m n i).1 → (cpy A B m n i).2 < m ∧ ap A B i (cpy A B m n i).2 = 0 ∧ rn A B m n i (cpy A B m n i).2 = (cpy A B m n i).1 := fun h0 => by
    obtain ⟨a, b, c, -⟩ := h.2.1 h0
    exact ⟨a, of_decide_eq_true b, c⟩
  refine ⟨h.1, ?_, key⟩
  rcases Int.lt_or_le 0 (cpy A B m n i).1 with e | e
  · have := (rn_in A B m n i (cpy A B m n i).2).2.1
    rw [(key e).2.2] at this
    exact this
  · omega
theorem shf_in (A B : Nat → Int) (m n i : Nat) : 0 ≤ (shf A B m n i).1 ∧ (shf A B m n i).1 ≤ (n - i : Nat) ∧ (0 < (shf A B m n i).1 → (shf A B m n i).2 < m ∧ ap A B i (shf A B m n i).2 ≠ 0 ∧ rn A B m n i (shf A B m n i).2 = (shf A B m n i).1) := by
  have h := mx_in (isS A B i) (rn A B m n i) m
  have key : 0 < (shf A B m n i).1 → (shf A B m n i).2 < m ∧ ap A B i (shf A B m n i).2 ≠ 0 ∧ rn A B m n i (shf A B m n i).2 = (shf A B m n i).1 := fun h0 => by
    obtain ⟨a, b, c, -⟩ := h.2.1 h0
    exact ⟨a, of_decide_eq_true b, c⟩
  refine ⟨h.1, ?_, key⟩
  rcases Int.lt_or_le 0 (shf A B m n i).1 with e | e
  · have := (rn_in A B m n i (shf A B m n i).2).2.1
    rw [(key e).2.2] at this
    exact this
  · omega
theorem stp_cong {A B : Nat → Int} {m n : Nat} {f g : Nat → Int} {i : Nat} (hi : i < n) (h : ∀ j, i < j → j ≤ n → f j = g j) : stp A B m n f i = stp A B m n g i := by
  unfold stp
  rw [adC_cong (g := g) (fun j h1 h2 => h j h1 (by omega))]
  have hc := cpy_in A B m n i
  have hs := shf_in A B m n i
  simp only [c2]
  by_cases e1 : 0 < (shf A B m n i).1
  · rw [if_pos e1, if_pos e1, h _ (by omega) (by omega)]
    by_cases e2 : 0 < (cpy A B m n i).1
    · rw [if_pos e2, if_pos e2, h _ (by omega) (by omega)]
    · rw [if_neg e2, if_neg e2]
  · rw [if_neg e1, if_neg e1]
    by_cases e2 : 0 < (cpy A B m n i).1
    · rw [if_pos e2, if_pos e2, h _ (by omega) (by omega)]
    · rw [if_neg e2, if_neg e2]
def lsP (A B : Nat → Int) (m n : Nat) : Nat → Nat → Int
  | 0 => fun _ => 0
  | d + 1 => fun j => if j + (d + 1) = n then (stp A B m n (lsP A B m n d) (n - (d + 1))).1 else lsP A B m n d j
theorem lsP_keep (A B : Nat → Int) (m n : Nat) {j d : Nat} (h : n ≤ j + d) : ∀ e, lsP A B m n (d + e) j = lsP A B m n d j
  | 0 => rfl
  | e + 1 => by
    rw [show d + (e + 1) = (d + e) + 1 by omega]
    simp only [lsP]
    rw [if_neg (by omega)]
    exact lsP_keep A B m n h e
/-- the least cost of the new bytes from i on -/
def ls (A B : Nat → Int) (m n i : Nat) : Int := lsP A B m n n i
/-- what is chosen there -/
def ch (A B : Nat → Int) (m n i : Nat) : Ch := stp A B m n (ls A B m n) i
theorem ls_n (A B : Nat → Int) (m n : Nat) : ls A B m n n = 0 := by
  have := lsP_keep A B m n (j := n) (d := 0) (by omega) n
  rw [Nat.zero_add] at this
  exact this
theorem ls_eq {A B : Nat → Int} {m n i : Nat} (h : i < n) : ls A B m n i = (ch A B m n i).1 := by
  obtain ⟨d, hd⟩ : ∃ d, n = i + (d + 1) := ⟨n - i - 1, by omega⟩
  have e1 : ls A B m n i = lsP A B m n (d + 1) i := by
    have := lsP_keep A B m n (j := i) (d := d + 1) (by omega) i
    unfold ls
    rw [← this]
    congr 1
    omega
  rw [e1]
  simp only [lsP]
  rw [if_pos hd.symm, show n - (d + 1) = i by omega, ch]
  rw [stp_cong h (fun j h1 h2 => ?_)]
  have := lsP_keep A B m n (j := j) (d := d) (by omega) (n - d)
  rw [← this, ls]
  congr 1
  omega
theorem try1_le (c : Ch) (kd n p d tot : Int) : (try1 c kd n p d tot).1 ≤ c.1 ∧ (try1 c kd n p d tot).1 ≤ tot := by
  unfold try1
  split
  · exact ⟨by simp only; omega, by simp only; omega⟩
  · exact ⟨by omega, by omega⟩
theorem adC_le (f : Nat → Int) (i : Nat) (c : Ch) : ∀ k, (adC f i c k).1 ≤ c.1 ∧ ∀ j, j < k → (adC f i c k).1 ≤ 1 + ((j : Int) + 1) + f (i + j + 1)
  | 0 => ⟨by simp [adC], fun j h => absurd h (by omega)⟩
  | k + 1 => by
    have ih := adC_le f i c k
    have t := try1_le (adC f i c k) 2 ((k : Int) + 1) i 0 (1 + ((k : Int) + 1) + f (i + k + 1))
    rw [adC]
    refine ⟨by omega, fun j hj => ?_⟩
    rcases Nat.lt_or_ge j k with e | e
    · have := ih.2 j e; omega
    · have : j = k := by omega
      subst this; omega
/-- where the choice comes from -/
theorem adC_of (f : Nat → Int) (i : Nat) (c : Ch) : ∀ k, adC f i c k = c ∨ ∃ j, j < k ∧ adC f i c k = (1 + ((j : Int) + 1) + f (i + j + 1), 2, (j : Int) + 1, (i : Int), 0)
  | 0 => Or.inl rfl
  | k + 1 => by
    rw [adC, try1]
    split
    · exact Or.inr ⟨k, by omega, rfl⟩
    · rcases adC_of f i c k with h | ⟨j, hj, h⟩
      · exact Or.inl h
      · exact Or.inr ⟨j, by omega, h⟩
theorem adC_pos {f : Nat → Int} {i : Nat} {c : Ch} {k : Nat} (hk : 0 < k) (hc : c.1 = 1000000) (h : f (i + 1) ≤ 999990) : ∃ j, j < k ∧ adC f i c k = (1 + ((j : Int) + 1) + f (i + j + 1), 2, (j : Int) + 1, (i : Int), 0) := by
  rcases adC_of f i c k with e | e
  · have := (adC_le f i c k).2 0 hk
    rw [e, hc, Nat.add_zero] at this
    omega
  · exact e
theorem ch_in {A B : Nat → Int} {m n i : Nat} (hi : i < n) (h : ls A B m n (i + 1) ≤ 999990) :
    (∃ j : Nat, j < min 30 (n - i) ∧ ch A B m n i = (1 + ((j : Int) + 1) + ls A B m n (i + j + 1), 2, (j : Int) + 1, (i : Int), 0)) ∨
    (0 < (shf A B m n i).1 ∧ ch A B m n i = (5 + ls A B m n (i + (shf A B m n i).1.toNat), 1, (shf A B m n i).1, ((shf A B m n i).2 : Int), ap A B i (shf A B m n i).2)) ∨
    (0 < (cpy A B m n i).1 ∧ ch A B m n i = (4 + ls A B m n (i + (cpy A B m n i).1.toNat), 0, (cpy A B m n i).1, ((cpy A B m n i).2 : Int), 0)) := by
  obtain ⟨j, hj, e⟩ := adC_pos (f := ls A B m n) (i := i) (c := (1000000, 0, 0, 0, 0)) (k := min 30 (n - i)) (by omega) rfl h
  have tor : ∀ (c : Ch) (kd n p d tot : Int), try1 c kd n p d tot = (tot, kd, n, p, d) ∨ try1 c kd n p d tot = c := fun c kd n p d tot => by
    unfold try1
    split
    · exact Or.inl rfl
    · exact Or.inr rfl
  unfold ch stp c2
  rw [e]
  simp only
  by_cases e1 : 0 < (shf A B m n i).1
  · rw [if_pos e1]
    by_cases e2 : 0 < (cpy A B m n i).1
    · rw [if_pos e2]
      rcases tor (try1 (1 + ((j : Int) + 1) + ls A B m n (i + j + 1), 2, (j : Int) + 1, (i : Int), 0) 1 (shf A B m n i).1 (shf A B m n i).2 (ap A B i (shf A B m n i).2) (5 + ls A B m n (i + (shf A B m n i).1.toNat))) 0 (cpy A B m n i).1 (cpy A B m n i).2 0 (4 + ls A B m n (i + (cpy A B m n i).1.toNat)) with h1 | h1
      · exact Or.inr (Or.inr ⟨e2, h1⟩)
      · rw [h1]
        rcases tor (1 + ((j : Int) + 1) + ls A B m n (i + j + 1), 2, (j : Int) + 1, (i : Int), 0) 1 (shf A B m n i).1 (shf A B m n i).2 (ap A B i (shf A B m n i).2) (5 + ls A B m n (i + (shf A B m n i).1.toNat)) with h2 | h2
        · exact Or.inr (Or.inl ⟨e1, h2⟩)
        · exact Or.inl ⟨j, hj, h2⟩
    · rw [if_neg e2]
      rcases tor (1 + ((j : Int) + 1) + ls A B m n (i + j + 1), 2, (j : Int) + 1, (i : Int), 0) 1 (shf A B m n i).1 (shf A B m n i).2 (ap A B i (shf A B m n i).2) (5 + ls A B m n (i + (shf A B m n i).1.toNat)) with h2 | h2
      · exact Or.inr (Or.inl ⟨e1, h2⟩)
      · exact Or.inl ⟨j, hj, h2⟩
  · rw [if_neg e1]
    by_cases e2 : 0 < (cpy A B m n i).1
    · rw [if_pos e2]
      rcases tor (1 + ((j : Int) + 1) + ls A B m n (i + j + 1), 2, (j : Int) + 1, (i : Int), 0) 0 (cpy A B m n i).1 (cpy A B m n i).2 0 (4 + ls A B m n (i + (cpy A B m n i).1.toNat)) with h1 | h1
      · exact Or.inr (Or.inr ⟨e2, h1⟩)
      · exact Or.inl ⟨j, hj, h1⟩
    · rw [if_neg e2]
      exact Or.inl ⟨j, hj, rfl⟩
theorem ch_le {A B : Nat → Int} {m n i : Nat} (hi : i < n) : (ch A B m n i).1 ≤ 2 + ls A B m n (i + 1) := by
  have h := (adC_le (ls A B m n) i (1000000, 0, 0, 0, 0) (min 30 (n - i))).2 0 (by omega)
  rw [Nat.add_zero] at h
  unfold ch stp c2
  have t := fun c kd n p d tot => (try1_le c kd n p d tot).1
  simp only
  split
  · refine Int.le_trans (t _ _ _ _ _ _) ?_
    split
    · exact Int.le_trans (t _ _ _ _ _ _) (by omega)
    · omega
  · split
    · exact Int.le_trans (t _ _ _ _ _ _) (by omega)
    · omega
theorem ls_in (A B : Nat → Int) (m n : Nat) (hn : n ≤ 120) : ∀ d i, i + d = n → 0 ≤ ls A B m n i ∧ ls A B m n i ≤ 2 * d
  | 0, i, h => by
    have : i = n := by omega
    subst this
    rw [ls_n]; exact ⟨by omega, by omega⟩
  | d + 1, i, h => by
    have key : ∀ j, i < j → j ≤ n → 0 ≤ ls A B m n j ∧ ls A B m n j ≤ 2 * (n - j : Nat) := fun j h1 h2 => by
      have := ls_in A B m n hn (n - j) j (by omega)
      exact this
    have h1 := key (i + 1) (by omega) (by omega)
    rw [ls_eq (by omega)]
    have hle := ch_le (A := A) (B := B) (m := m) (n := n) (i := i) (by omega)
    refine ⟨?_, by omega⟩
    rcases ch_in (A := A) (B := B) (m := m) (n := n) (i := i) (by omega) (by omega) with ⟨j, hj, e⟩ | ⟨h0, e⟩ | ⟨h0, e⟩
    · rw [e]; have := key (i + j + 1) (by omega) (by omega); simp only; omega
    · have b := shf_in A B m n i
      rw [e]; have := key (i + (shf A B m n i).1.toNat) (by omega) (by omega); simp only; omega
    · have b := cpy_in A B m n i
      rw [e]; have := key (i + (cpy A B m n i).1.toNat) (by omega) (by omega); simp only; omega
  termination_by d => d

section STP
variable {T L : Nat → Nat} {P : Nat → Nat → Option Nat} {I : Nat → Nat → Int} {hn : Nat}
def mem5 (J : Nat → Nat → Int) (i : Nat) : Ch := (J 13 i, J 14 i, J 15 i, J 16 i, J 17 i)
/-- only the planner's choice at i has changed: it is c -/
def tPost (I : Nat → Nat → Int) (i : Nat) (c : Ch) (J : Nat → Nat → Int) : Prop := (∀ b, b < 13 ∨ 17 < b → J b = I b) ∧ (∀ b j, 13 ≤ b → b ≤ 17 → j ≠ i → J b j = I b j) ∧ mem5 J i = c

set_option maxHeartbeats 4000000 in
set_option maxRecDepth 100000 in
theorem k_tryStep {i : Nat} {kd n p d : Int} (hW : Wd T L P) (hk : kd = 0 ∨ kd = 1 ∨ kd = 2) (h1 : 1 ≤ n) (h2 : (i : Int) + n ≤ 120) (h3 : 0 ≤ I 13 (i + n.toNat)) (h4 : I 13 (i + n.toNat) ≤ 1000) : iX4_tryStep [.inr (some 10), .inl (i : Int), .inl kd, .inl n, .inl p, .inl d] T L P I hn (fun r J => r = none ∧ tPost I i (try1 (mem5 I i) kd n p d (spr kd n + I 13 (i + n.toNat))) J) := by
  refine CT.by (by decide) (Nat.le_of_ble_eq_true rfl) fun X Y Q hQ K hv => ?_
  have l13 : L 13 = 121 := hW.2.1 13 121 rfl (by decide)
  have l14 : L 14 = 120 := hW.2.1 14 120 rfl (by decide)
  have l15 : L 15 = 120 := hW.2.1 15 120 rfl (by decide)
  have l16 : L 16 = 120 := hW.2.1 16 120 rfl (by decide)
  have l17 : L 17 = 120 := hW.2.1 17 120 rfl (by decide)
  have ei : ((i : Int) + n).toNat = i + n.toNat := by omega
  have hsp : 0 ≤ spr kd n ∧ spr kd n ≤ 121 := by
    unfold spr
    rcases hk with rfl | rfl | rfl <;> simp <;> omega
  refine r_iload_n K dX4_tryStep_0 rfl ?_
  refine r_iload_n K dX4_tryStep_1 rfl ?_
  refine rcS2p K dX4_tryStep_2 c_X4_82 s_X7_stepPrice (k_stepPrice hk (by omega) (by omega)) (by decide) (Nat.le_of_ble_eq_true rfl) ?_
  refine r_aload_n K dX4_tryStep_5 rfl ?_
  refine r_getR K dX4_tryStep_6 f_X4_18 rfl (by first | assumption | exact hW.1 _ _ rfl | exact hW.2.2.1 _ _ _ rfl) (by first | assumption | exact hW.1 _ _ rfl | exact hW.2.2.1 _ _ _ rfl) ?_
  try simp only [Int.toNat_natCast, ei]
  refine r_iload_n K dX4_tryStep_9 rfl ?_
  refine r_iload_n K dX4_tryStep_10 rfl ?_
  refine r_iadd K dX4_tryStep_11 ?_
  refine r_iald K dX4_tryStep_12 (by first | assumption | exact hW.1 _ _ rfl | exact hW.2.2.1 _ _ _ rfl) (by omega) (by omega) ?_
  try simp only [Int.toNat_natCast, ei]
  refine r_iadd K dX4_tryStep_13 ?_
  refine r_istore K dX4_tryStep_14 (by decide) ?_
  refine r_iload K dX4_tryStep_16 rfl ?_
  refine r_aload_n K dX4_tryStep_18 rfl ?_
  refine r_getR K dX4_tryStep_19 f_X4_18 rfl (by first | assumption | exact hW.1 _ _ rfl | exact hW.2.2.1 _ _ _ rfl) (by first | assumption | exact hW.1 _ _ rfl | exact hW.2.2.1 _ _ _ rfl) ?_
  try simp only [Int.toNat_natCast, ei]
  refine r_iload_n K dX4_tryStep_22 rfl ?_
  refine r_iald K dX4_tryStep_23 (by first | assumption | exact hW.1 _ _ rfl | exact hW.2.2.1 _ _ _ rfl) (by omega) (by omega) ?_
  try simp only [Int.toNat_natCast, ei]
  refine r_icmp_gt K 65 dX4_tryStep_24 (by decide) (fun c24 => ?_) (fun c24 => ?_)
  · exact q_vret K hQ rfl dX4_tryStep_65 (Nat.le_refl _) (Nat.le_refl _) ⟨rfl, rfl, rfl, rfl, rfl, fun _ _ => rfl, fun _ _ _ _ _ => rfl, by rw [try1, if_neg (by simp only [mem5]; omega)]⟩
  · refine r_aload_n K dX4_tryStep_27 rfl ?_
    refine r_getR K dX4_tryStep_28 f_X4_18 rfl (by first | assumption | exact hW.1 _ _ rfl | exact hW.2.2.1 _ _ _ rfl) (by first | assumption | exact hW.1 _ _ rfl | exact hW.2.2.1 _ _ _ rfl) ?_
    try simp only [Int.toNat_natCast, ei]
    refine r_iload_n K dX4_tryStep_31 rfl ?_
    refine r_iload K dX4_tryStep_32 rfl ?_
    refine r_iast K dX4_tryStep_34 (by first | assumption | exact hW.1 _ _ rfl | exact hW.2.2.1 _ _ _ rfl) (by omega) (by omega) ?_
    refine r_aload_n K dX4_tryStep_35 rfl ?_
    refine r_getR K dX4_tryStep_36 f_X4_21 rfl (by first | assumption | exact hW.1 _ _ rfl | exact hW.2.2.1 _ _ _ rfl) (by first | assumption | exact hW.1 _ _ rfl | exact hW.2.2.1 _ _ _ rfl) ?_
    try simp only [Int.toNat_natCast, ei]
    refine r_iload_n K dX4_tryStep_39 rfl ?_
    refine r_iload_n K dX4_tryStep_40 rfl ?_
    refine r_iast K dX4_tryStep_41 (by first | assumption | exact hW.1 _ _ rfl | exact hW.2.2.1 _ _ _ rfl) (by omega) (by omega) ?_
    refine r_aload_n K dX4_tryStep_42 rfl ?_
    refine r_getR K dX4_tryStep_43 f_X4_24 rfl (by first | assumption | exact hW.1 _ _ rfl | exact hW.2.2.1 _ _ _ rfl) (by first | assumption | exact hW.1 _ _ rfl | exact hW.2.2.1 _ _ _ rfl) ?_
    try simp only [Int.toNat_natCast, ei]
    refine r_iload_n K dX4_tryStep_46 rfl ?_
    refine r_iload_n K dX4_tryStep_47 rfl ?_
    refine r_iast K dX4_tryStep_48 (by first | assumption | exact hW.1 _ _ rfl | exact hW.2.2.1 _ _ _ rfl) (by omega) (by omega) ?_
    refine r_aload_n K dX4_tryStep_49 rfl ?_
    refine r_getR K dX4_tryStep_50 f_X4_27 rfl (by first | assumption | exact hW.1 _ _ rfl | exact hW.2.2.1 _ _ _ rfl) (by first | assumption | exact hW.1 _ _ rfl | exact hW.2.2.1 _ _ _ rfl) ?_
    try simp only [Int.toNat_natCast, ei]
    refine r_iload_n K dX4_tryStep_53 rfl ?_
    refine r_iload K dX4_tryStep_54 rfl ?_
    refine r_iast K dX4_tryStep_56 (by first | assumption | exact hW.1 _ _ rfl | exact hW.2.2.1 _ _ _ rfl) (by omega) (by omega) ?_
    refine r_aload_n K dX4_tryStep_57 rfl ?_
    refine r_getR K dX4_tryStep_58 f_X4_30 rfl (by first | assumption | exact hW.1 _ _ rfl | exact hW.2.2.1 _ _ _ rfl) (by first | assumption | exact hW.1 _ _ rfl | exact hW.2.2.1 _ _ _ rfl) ?_
    try simp only [Int.toNat_natCast, ei]
    refine r_iload_n K dX4_tryStep_61 rfl ?_
    refine r_iload K dX4_tryStep_62 rfl ?_
    refine r_iast K dX4_tryStep_64 (by first | assumption | exact hW.1 _ _ rfl | exact hW.2.2.1 _ _ _ rfl) (by omega) (by omega) ?_
    exact q_vret K hQ rfl dX4_tryStep_65 (Nat.le_refl _) (Nat.le_refl _) (⟨rfl, rfl, rfl, rfl, rfl, fun b hb => by
      rw [mI_ne (by omega), mI_ne (by omega), mI_ne (by omega), mI_ne (by omega), mI_ne (by omega)], fun b j h1 h2 hj => by
      simp only [Int.toNat_natCast]
      rw [mI_off hj, mI_off hj, mI_off hj, mI_off hj, mI_off hj], by
      rw [try1, if_pos (by simp only [mem5]; omega)]
      simp only [mem5, mI_row, mI_ne, ne_eq, not_false_eq_true, Nat.reduceEqDiff, Int.toNat_natCast, if_true]⟩)
end STP
end
section
section CHO
variable {T L : Nat → Nat} {P : Nat → Nat → Option Nat} {I : Nat → Nat → Int} {hn : Nat}

set_option maxHeartbeats 4000000 in
set_option maxRecDepth 100000 in
theorem k_chooseStep {i n : Nat} (hW : Wd T L P) (hi : i < n) (hn1 : n ≤ 120) (hl : ∀ j, i < j → j ≤ n → 0 ≤ I 13 j ∧ I 13 j ≤ 1000) (hc : I 10 7 ≤ (n - i : Nat)) (hs : I 10 9 ≤ (n - i : Nat)) (hg : 0 < I 10 9 → 0 ≤ I 10 10 ∧ I 10 10 < 120) :
    iX4_chooseStep [.inr (some 10), .inl (i : Int), .inl (n : Int)] T L P I hn (fun r J => r = none ∧ tPost I i (c2 (I 13) i (adC (I 13) i (1000000, 0, 0, 0, 0) (min 30 (n - i))) (I 10 7) (I 10 8) (I 10 9) (I 10 10) (I 12 (I 10 10).toNat)) J) := by
  refine CT.by (by decide) (Nat.le_of_ble_eq_true rfl) fun X Y Q hQ K hv => ?_
  have l13 : L 13 = 121 := hW.2.1 13 121 rfl (by decide)
  have l12 : L 12 = 120 := hW.2.1 12 120 rfl (by decide)
  obtain ⟨kn, hkn⟩ : ∃ kn, kn = min 30 (n - i) := ⟨_, rfl⟩
  have hst : adC (I 13) i (1000000, I 14 i, I 15 i, I 16 i, I 17 i) kn = adC (I 13) i (1000000, 0, 0, 0, 0) kn := by
    obtain ⟨k, rfl⟩ : ∃ k, kn = k + 1 := ⟨kn - 1, by omega⟩
    exact adC_stale rfl rfl (by have := hl (i + 1) (by omega) (by omega); omega) k
  rw [← hkn, ← hst] at hQ
  have keep : ∀ {J : Nat → Nat → Int} {c : Ch}, tPost I i c J → J 10 = I 10 ∧ J 12 = I 12 ∧ ∀ j, j ≠ i → J 13 j = I 13 j := fun h => ⟨h.1 10 (by omega), h.1 12 (by omega), fun j hj => h.2.1 13 j (by omega) (by omega) hj⟩
  have next : ∀ {J J1 : Nat → Nat → Int} {c c' : Ch}, tPost I i c J → tPost J i c' J1 → tPost I i c' J1 := fun h h' => ⟨fun b hb => (h'.1 b hb).trans (h.1 b hb), fun b j h1 h2 h3 => (h'.2.1 b j h1 h2 h3).trans (h.2.1 b j h1 h2 h3), h'.2.2⟩
  have tr : ∀ {J : Nat → Nat → Int} {c : Ch} {kd z p d : Int}, tPost I i c J → (kd = 0 ∨ kd = 1 ∨ kd = 2) → 1 ≤ z → z ≤ (n - i : Nat) → iX4_tryStep [.inr (some 10), .inl (i : Int), .inl kd, .inl z, .inl p, .inl d] T L P J hn (fun r J1 => r = none ∧ tPost J i (try1 c kd z p d (spr kd z + I 13 (i + z.toNat))) J1) := by
    intro J c kd z p d h hk h1 h2
    obtain ⟨-, -, k3⟩ := keep h
    have e := k3 (i + z.toNat) (by omega)
    have b := hl (i + z.toNat) (by omega) (by omega)
    have := k_tryStep (T := T) (L := L) (P := P) (I := J) (hn := hn) (i := i) (kd := kd) (n := z) (p := p) (d := d) hW hk h1 (by omega) (by omega) (by omega)
    rw [e, h.2.2] at this
    exact this
  have j94 : ∀ (J : Nat → Nat → Int) (g3 g4 : Option PV), tPost I i (c2 (I 13) i (adC (I 13) i (1000000, I 14 i, I 15 i, I 16 i, I 17 i) kn) (I 10 7) (I 10 8) (I 10 9) (I 10 10) (I 12 (I 10 10).toNat)) J → RR X Y Q 0 0 94 [some (.inr (some 10)), some (.inl (i : Int)), some (.inl (n : Int)), g3, g4] [] T L P J hn := by
    intro J g3 g4 h
    exact q_vret K hQ rfl dX4_chooseStep_94 (Nat.le_refl _) (Nat.le_refl _) (⟨rfl, rfl, rfl, rfl, rfl, h⟩)
  have j72 : ∀ (J : Nat → Nat → Int) (g3 g4 : Option PV), tPost I i (if 0 < I 10 9 then try1 (adC (I 13) i (1000000, I 14 i, I 15 i, I 16 i, I 17 i) kn) 1 (I 10 9) (I 10 10) (I 12 (I 10 10).toNat) (5 + I 13 (i + (I 10 9).toNat)) else (adC (I 13) i (1000000, I 14 i, I 15 i, I 16 i, I 17 i) kn)) J → RR X Y Q 0 0 72 [some (.inr (some 10)), some (.inl (i : Int)), some (.inl (n : Int)), g3, g4] [] T L P J hn := by
    intro J g3 g4 h
    obtain ⟨k1, k2, k3⟩ := keep h
    refine r_aload_n K dX4_chooseStep_72 rfl ?_
    refine r_getI K dX4_chooseStep_73 f_X4_59 rfl (by first | assumption | exact hW.1 _ _ rfl | exact hW.2.2.1 _ _ _ rfl) ?_
    try rw [k1]
    refine r_if_le K 94 dX4_chooseStep_76 (by decide) (fun c76 => ?_) (fun c76 => ?_)
    · first
        | exact j94 _ _ _ (by rw [c2]; (try simp only []); rw [if_neg (by omega)]; exact h)
        | exact j94 _ _ _ (by rw [c2]; (try simp only []); rw [if_pos c76]; exact next h hJ1)
    · refine r_aload_n K dX4_chooseStep_79 rfl ?_
      refine r_iload_n K dX4_chooseStep_80 rfl ?_
      refine r_iconst K dX4_chooseStep_81 ?_
      refine r_aload_n K dX4_chooseStep_82 rfl ?_
      refine r_getI K dX4_chooseStep_83 f_X4_59 rfl (by first | assumption | exact hW.1 _ _ rfl | exact hW.2.2.1 _ _ _ rfl) ?_
      try rw [k1]
      refine r_aload_n K dX4_chooseStep_86 rfl ?_
      refine r_getI K dX4_chooseStep_87 f_X4_65 rfl (by first | assumption | exact hW.1 _ _ rfl | exact hW.2.2.1 _ _ _ rfl) ?_
      try rw [k1]
      refine r_iconst K dX4_chooseStep_90 ?_
      refine rcV5i K dX4_chooseStep_91 c_X4_78 v_X4_tryStep (by first | assumption | exact hW.1 _ _ rfl | exact hW.2.2.1 _ _ _ rfl) (tr h (Or.inl rfl) (by omega) (by omega)) (by decide) (Nat.le_of_ble_eq_true rfl) ?_
      rintro _ J1 ⟨rfl, hJ1⟩
      first
        | exact j94 _ _ _ (by rw [c2]; (try simp only []); rw [if_neg (by omega)]; exact h)
        | exact j94 _ _ _ (by rw [c2]; (try simp only []); rw [if_pos c76]; exact next h hJ1)
  have j42 : ∀ (J : Nat → Nat → Int) (g3 g4 : Option PV), tPost I i (adC (I 13) i (1000000, I 14 i, I 15 i, I 16 i, I 17 i) kn) J → RR X Y Q 0 0 42 [some (.inr (some 10)), some (.inl (i : Int)), some (.inl (n : Int)), g3, g4] [] T L P J hn := by
    intro J g3 g4 h
    obtain ⟨k1, k2, k3⟩ := keep h
    refine r_aload_n K dX4_chooseStep_42 rfl ?_
    refine r_getI K dX4_chooseStep_43 f_X4_62 rfl (by first | assumption | exact hW.1 _ _ rfl | exact hW.2.2.1 _ _ _ rfl) ?_
    try rw [k1]
    refine r_if_le K 72 dX4_chooseStep_46 (by decide) (fun c46 => ?_) (fun c46 => ?_)
    · first
        | exact j72 _ _ _ (by rw [if_neg (by omega)]; exact h)
        | exact j72 _ _ _ (by rw [if_pos c46]; exact next h hJ1)
    · have hgg := hg c46
      refine r_aload_n K dX4_chooseStep_49 rfl ?_
      refine r_iload_n K dX4_chooseStep_50 rfl ?_
      refine r_iconst K dX4_chooseStep_51 ?_
      refine r_aload_n K dX4_chooseStep_52 rfl ?_
      refine r_getI K dX4_chooseStep_53 f_X4_62 rfl (by first | assumption | exact hW.1 _ _ rfl | exact hW.2.2.1 _ _ _ rfl) ?_
      try rw [k1]
      refine r_aload_n K dX4_chooseStep_56 rfl ?_
      refine r_getI K dX4_chooseStep_57 f_X4_68 rfl (by first | assumption | exact hW.1 _ _ rfl | exact hW.2.2.1 _ _ _ rfl) ?_
      try rw [k1]
      refine r_aload_n K dX4_chooseStep_60 rfl ?_
      refine r_getR K dX4_chooseStep_61 f_X4_15 rfl (by first | assumption | exact hW.1 _ _ rfl | exact hW.2.2.1 _ _ _ rfl) (by first | assumption | exact hW.1 _ _ rfl | exact hW.2.2.1 _ _ _ rfl) ?_
      try rw [k1]
      refine r_aload_n K dX4_chooseStep_64 rfl ?_
      refine r_getI K dX4_chooseStep_65 f_X4_68 rfl (by first | assumption | exact hW.1 _ _ rfl | exact hW.2.2.1 _ _ _ rfl) ?_
      try rw [k1]
      refine r_iald K dX4_chooseStep_68 (by first | assumption | exact hW.1 _ _ rfl | exact hW.2.2.1 _ _ _ rfl) (by omega) (by omega) ?_
      try rw [k1]
      rw [k2]
      refine rcV5i K dX4_chooseStep_69 c_X4_78 v_X4_tryStep (by first | assumption | exact hW.1 _ _ rfl | exact hW.2.2.1 _ _ _ rfl) (tr h (Or.inr (Or.inl rfl)) (by omega) (by omega)) (by decide) (Nat.le_of_ble_eq_true rfl) ?_
      rintro _ J1 ⟨rfl, hJ1⟩
      first
        | exact j72 _ _ _ (by rw [if_neg (by omega)]; exact h)
        | exact j72 _ _ _ (by rw [if_pos c46]; exact next h hJ1)
  have loop : ∀ (d k : Nat) (z : Int) (J : Nat → Nat → Int), z = k + 1 → kn - k = d → k ≤ kn → tPost I i (adC (I 13) i (1000000, I 14 i, I 15 i, I 16 i, I 17 i) k) J → RR X Y Q 0 0 20 [some (.inr (some 10)), some (.inl (i : Int)), some (.inl (n : Int)), some (.inl (kn : Int)), some (.inl z)] [] T L P J hn := by
    intro d
    induction d using Nat.strongRecOn with
    | ind d ih =>
      intro k z J hz hd hk h
      refine r_iload K dX4_chooseStep_20 rfl ?_
      refine r_iload_n K dX4_chooseStep_22 rfl ?_
      refine r_icmp_gt K 42 dX4_chooseStep_23 (by decide) (fun c23 => ?_) (fun c23 => ?_)
      · have : k = kn := by omega
        subst this
        exact j42 _ _ _ h
      · refine r_aload_n K dX4_chooseStep_26 rfl ?_
        refine r_iload_n K dX4_chooseStep_27 rfl ?_
        refine r_iconst K dX4_chooseStep_28 ?_
        refine r_iload K dX4_chooseStep_29 rfl ?_
        refine r_iload_n K dX4_chooseStep_31 rfl ?_
        refine r_iconst K dX4_chooseStep_32 ?_
        refine rcV5i K dX4_chooseStep_33 c_X4_78 v_X4_tryStep (by first | assumption | exact hW.1 _ _ rfl | exact hW.2.2.1 _ _ _ rfl) (tr h (Or.inr (Or.inr rfl)) (by omega) (by omega)) (by decide) (Nat.le_of_ble_eq_true rfl) ?_
        rintro _ J1 ⟨rfl, hJ1⟩
        refine r_iinc K dX4_chooseStep_36 (by decide) rfl ?_
        refine r_goto K 20 dX4_chooseStep_39 (by decide) ?_
        refine ih _ (by omega) (k + 1) _ J1 (by omega) rfl (by omega) (next h ?_)
        rw [adC]
        rw [hz, show i + ((k : Int) + 1).toNat = i + k + 1 by omega] at hJ1
        exact hJ1
  refine r_aload_n K dX4_chooseStep_0 rfl ?_
  refine r_getR K dX4_chooseStep_1 f_X4_18 rfl (by first | assumption | exact hW.1 _ _ rfl | exact hW.2.2.1 _ _ _ rfl) (by first | assumption | exact hW.1 _ _ rfl | exact hW.2.2.1 _ _ _ rfl) ?_
  refine r_iload_n K dX4_chooseStep_4 rfl ?_
  refine r_ldc (n := 1000000) K dX4_chooseStep_5 k_X4_71 rfl ?_
  refine r_iast K dX4_chooseStep_7 (by first | assumption | exact hW.1 _ _ rfl | exact hW.2.2.1 _ _ _ rfl) (by omega) (by omega) ?_
  refine r_bipush K dX4_chooseStep_8 ?_
  refine r_iload_n K dX4_chooseStep_10 rfl ?_
  refine r_iload_n K dX4_chooseStep_11 rfl ?_
  refine r_isub K dX4_chooseStep_12 ?_
  refine r_min K dX4_chooseStep_13 m_X4_72 (Nat.le_of_ble_eq_true rfl) (Nat.le_of_ble_eq_true rfl) (Nat.le_of_ble_eq_true rfl) (Nat.le_of_ble_eq_true rfl) ?_
  rw [show (if (n : Int) - (i : Int) < 30 then (n : Int) - (i : Int) else 30) = (kn : Int) by split <;> omega]
  refine r_istore_n K dX4_chooseStep_16 (by decide) ?_
  refine r_iconst K dX4_chooseStep_17 ?_
  refine r_istore K dX4_chooseStep_18 (by decide) ?_
  refine loop _ 0 1 _ (by omega) rfl (by omega) ⟨fun b hb => mI_ne (by omega), fun b j h1 h2 h3 => ?_, ?_⟩
  · simp only [Int.toNat_natCast]
    exact mI_off h3
  · simp only [mem5, adC, mI_row, mI_ne, ne_eq, not_false_eq_true, Nat.reduceEqDiff, Int.toNat_natCast, if_true]
end CHO
end
section
/-- what a choice is good for -/
theorem ch_ok {A B : Nat → Int} {m n i : Nat} (hn : n ≤ 120) (hi : i < n) :
    ((ch A B m n i).2.1 = 0 ∨ (ch A B m n i).2.1 = 1 ∨ (ch A B m n i).2.1 = 2) ∧ 1 ≤ (ch A B m n i).2.2.1 ∧ (i : Int) + (ch A B m n i).2.2.1 ≤ n ∧ ls A B m n i = spr (ch A B m n i).2.1 (ch A B m n i).2.2.1 + ls A B m n (i + (ch A B m n i).2.2.1.toNat) ∧
    ((ch A B m n i).2.1 = 2 → (ch A B m n i).2.2.2.1 = i ∧ (ch A B m n i).2.2.2.2 = 0 ∧ (ch A B m n i).2.2.1 ≤ 30) ∧
    ((ch A B m n i).2.1 ≠ 2 → 0 ≤ (ch A B m n i).2.2.2.1 ∧ (ch A B m n i).2.2.2.1 + (ch A B m n i).2.2.1 ≤ m ∧ 0 ≤ (ch A B m n i).2.2.2.2 ∧ (ch A B m n i).2.2.2.2 < 256 ∧ ((ch A B m n i).2.1 = 0 → (ch A B m n i).2.2.2.2 = 0) ∧ ((ch A B m n i).2.1 = 1 → (ch A B m n i).2.2.2.2 ≠ 0)) := by
  have hl := ls_in A B m n hn (n - (i + 1)) (i + 1) (by omega)
  rw [ls_eq hi]
  rcases ch_in (A := A) (B := B) (m := m) (n := n) (i := i) hi (by omega) with ⟨j, hj, e⟩ | ⟨h0, e⟩ | ⟨h0, e⟩
  · rw [e]
    simp only [spr]
    refine ⟨Or.inr (Or.inr trivial), by omega, by omega, ?_, fun _ => ⟨trivial, trivial, by omega⟩, fun h => absurd rfl h⟩
    rw [show i + ((j : Int) + 1).toNat = i + j + 1 by omega]
    simp
  · rw [e]
    have b := shf_in A B m n i
    have c := (b.2.2 h0)
    have d := (rn_in A B m n i (shf A B m n i).2).2.2 (by omega)
    simp only [spr]
    refine ⟨Or.inr (Or.inl trivial), by omega, by omega, by simp, fun h => absurd h (by decide), fun _ => ⟨by omega, by omega, Int.emod_nonneg _ (by decide), Int.emod_lt_of_pos _ (by decide), fun h => absurd h (by decide), fun _ => c.2.1⟩⟩
  · rw [e]
    have b := cpy_in A B m n i
    have c := (b.2.2 h0)
    have d := (rn_in A B m n i (cpy A B m n i).2).2.2 (by omega)
    simp only [spr]
    refine ⟨Or.inl trivial, by omega, by omega, by simp, fun h => absurd h (by decide), fun _ => ⟨by omega, by omega, by omega, by omega, fun _ => trivial, fun h => absurd h (by decide)⟩⟩
/-- where step k begins -/
def pos (A B : Nat → Int) (m n : Nat) : Nat → Nat
  | 0 => 0
  | k + 1 => pos A B m n k + (ch A B m n (pos A B m n k)).2.2.1.toNat
/-- a patch's cells hold the plan of A's m bytes to B's n -/
def PK (A B : Nat → Int) (m n a k0 k1 k2 k3 : Nat) (J : Nat → Nat → Int) : Prop :=
  ∃ N, pos A B m n N = n ∧ (∀ k, k < N → pos A B m n k < n) ∧ J a 4 = N ∧ J a 5 = 3 + ls A B m n 0 ∧ ∀ k, k < N → (J k0 k, J k1 k, J k2 k, J k3 k) = (ch A B m n (pos A B m n k)).2
section PLA
variable {T L : Nat → Nat} {P : Nat → Nat → Option Nat} {I : Nat → Nat → Int} {hn o ov f fv m n a k0 k1 k2 k3 : Nat}
/-- the planner's cells when the bytes from d on are planned -/
def pInv (I : Nat → Nat → Int) (A B : Nat → Int) (m n d : Nat) (J : Nat → Nat → Int) : Prop :=
  (∀ b, b < 10 ∨ 17 < b → J b = I b) ∧ (d < n → ∀ q, q < m → J 12 q = ap A B d q ∧ J 11 q = rn A B m n d q) ∧ (∀ j, d ≤ j → j ≤ n → J 13 j = ls A B m n j) ∧ ∀ j, d ≤ j → j < n → (J 14 j, J 15 j, J 16 j, J 17 j) = (ch A B m n j).2
theorem pStep {A B : Nat → Int} {d : Nat} {J J1 J2 : Nat → Nat → Int} (hd : d < n) (h : pInv I A B m n (d + 1) J) (h1 : fInv J A B m n d m J1) (h2 : tPost J1 d (c2 (J1 13) d (adC (J1 13) d (1000000, 0, 0, 0, 0) (min 30 (n - d))) (J1 10 7) (J1 10 8) (J1 10 9) (J1 10 10) (J1 12 (J1 10 10).toNat)) J2) : pInv I A B m n d J2 := by
  obtain ⟨p1, p2, p3, p4⟩ := h
  obtain ⟨f1, f2, f3, f4, f5, f6, f7, f8⟩ := h1
  obtain ⟨t1, t2, t3⟩ := h2
  have e13 : ∀ j, d < j → j ≤ n → J1 13 j = ls A B m n j := fun j h1 h2 => by rw [f1 13 (by omega) (by omega) (by omega)]; exact p3 j h1 h2
  have ec : c2 (J1 13) d (adC (J1 13) d (1000000, 0, 0, 0, 0) (min 30 (n - d))) (J1 10 7) (J1 10 8) (J1 10 9) (J1 10 10) (J1 12 (J1 10 10).toNat) = ch A B m n d := by
    rw [ch, stp, adC_cong (g := ls A B m n) (fun j h1 h2 => e13 j h1 (by omega)), c2, c2]
    have hc := cpy_in A B m n d
    have hs := shf_in A B m n d
    have g7 : J1 10 7 = (cpy A B m n d).1 := f5
    have g9 : J1 10 9 = (shf A B m n d).1 := f7
    rw [g7, g9]
    by_cases e1 : 0 < (shf A B m n d).1
    · have g10 : J1 10 10 = (shf A B m n d).2 := f8 (by omega)
      rw [if_pos e1, if_pos e1, g10, Int.toNat_natCast, (f3 _ (hs.2.2 e1).1).1, e13 _ (by omega) (by omega)]
      by_cases e2 : 0 < (cpy A B m n d).1
      · have g8 : J1 10 8 = (cpy A B m n d).2 := f6 (by omega)
        rw [if_pos e2, if_pos e2, g8, e13 _ (by omega) (by omega)]
      · rw [if_neg e2, if_neg e2]
    · rw [if_neg e1, if_neg e1]
      by_cases e2 : 0 < (cpy A B m n d).1
      · have g8 : J1 10 8 = (cpy A B m n d).2 := f6 (by omega)
        rw [if_pos e2, if_pos e2, g8, e13 _ (by omega) (by omega)]
      · rw [if_neg e2, if_neg e2]
  rw [ec] at t3
  refine ⟨fun b hb => ?_, fun _ q hq => ?_, fun j h1 h2 => ?_, fun j h1 h2 => ?_⟩
  · rw [t1 b (by omega), f1 b (by omega) (by omega) (by omega)]; exact p1 b hb
  · rw [t1 12 (by omega), t1 11 (by omega)]; exact f3 q hq
  · by_cases e : j = d
    · subst e
      rw [ls_eq (by omega), ← t3]; rfl
    · rw [t2 13 j (by omega) (by omega) e]; exact e13 j (by omega) h2
  · by_cases e : j = d
    · subst e
      rw [← t3]; rfl
    · rw [t2 14 j (by omega) (by omega) e, t2 15 j (by omega) (by omega) e, t2 16 j (by omega) (by omega) e, t2 17 j (by omega) (by omega) e, f1 14 (by omega) (by omega) (by omega), f1 15 (by omega) (by omega) (by omega), f1 16 (by omega) (by omega) (by omega), f1 17 (by omega) (by omega) (by omega)]
      exact p4 j (by omega) h2

set_option maxHeartbeats 4000000 in
set_option maxRecDepth 100000 in
theorem k_plan (hW : Wd T L P) (ho : T o = 0) (po : P o 0 = some ov) (hov : T ov = 10) (lov : m ≤ L ov) (co : I o 1 = m) (hm : m ≤ 120) (hf : T f = 0) (pf : P f 0 = some fv) (hfv : T fv = 10) (lfv : n ≤ L fv) (cf : I f 1 = n) (hn0 : n ≤ 120) (go : 17 < o) (gov : 17 < ov) (gf : 17 < f) (gfv : 17 < fv) (ha : T a = 3) (p0 : P a 0 = some k0) (p1 : P a 1 = some k1) (p2 : P a 2 = some k2) (p3 : P a 3 = some k3) (t0 : T k0 = 10) (t1 : T k1 = 10) (t2 : T k2 = 10) (t3 : T k3 = 10) (l0 : L k0 = 120) (l1 : L k1 = 120) (l2 : L k2 = 120) (l3 : L k3 = 120) (d1 : k0 ≠ k1) (d2 : k0 ≠ k2) (d3 : k0 ≠ k3) (d4 : k1 ≠ k2) (d5 : k1 ≠ k3) (d6 : k2 ≠ k3) (ga : 17 < a) (g0 : 17 < k0) (g1 : 17 < k1) (g2 : 17 < k2) (g3 : 17 < k3)
    (hA0 : ∀ j, j < m → 0 ≤ I ov j ∧ I ov j < 256) (hB0 : ∀ j, j < n → 0 ≤ I fv j ∧ I fv j < 256) :
    iX4_plan [.inr (some 10), .inr (some o), .inr (some f), .inr (some a)] T L P I hn (fun r J => r = none ∧ (∀ b, b < 10 ∨ (17 < b ∧ b ≠ a ∧ b ≠ k0 ∧ b ≠ k1 ∧ b ≠ k2 ∧ b ≠ k3) → J b = I b) ∧ PK (I ov) (I fv) m n a k0 k1 k2 k3 J) := by
  refine CT.by (by decide) (Nat.le_of_ble_eq_true rfl) fun X Y Q hQ K hv => ?_
  have l13 : L 13 = 121 := hW.2.1 13 121 rfl (by decide)
  have l14 : L 14 = 120 := hW.2.1 14 120 rfl (by decide)
  have l15 : L 15 = 120 := hW.2.1 15 120 rfl (by decide)
  have l16 : L 16 = 120 := hW.2.1 16 120 rfl (by decide)
  have l17 : L 17 = 120 := hW.2.1 17 120 rfl (by decide)
  have e0 : a ≠ k0 := fun e => by rw [e] at ha; omega
  have e1 : a ≠ k1 := fun e => by rw [e] at ha; omega
  have e2 : a ≠ k2 := fun e => by rw [e] at ha; omega
  have e3 : a ≠ k3 := fun e => by rw [e] at ha; omega
  have fa : f ≠ a := fun e => by rw [e] at hf; omega
  have f0 : f ≠ k0 := fun e => by rw [e] at hf; omega
  have f1 : f ≠ k1 := fun e => by rw [e] at hf; omega
  have f2 : f ≠ k2 := fun e => by rw [e] at hf; omega
  have f3 : f ≠ k3 := fun e => by rw [e] at hf; omega
  -- the second loop: the steps are laid
  have loop2 : ∀ (J2 : Nat → Nat → Int), pInv I (I ov) (I fv) m n 0 J2 → ∀ (d i k : Nat) (z w : Int) (J : Nat → Nat → Int), z = i → w = pos (I ov) (I fv) m n k → n - i = d → i ≤ n → i ≤ pos (I ov) (I fv) m n k → pos (I ov) (I fv) m n k ≤ n → k ≤ pos (I ov) (I fv) m n k → J a 4 = k → J a 5 + ls (I ov) (I fv) m n (pos (I ov) (I fv) m n k) = 3 + ls (I ov) (I fv) m n 0 → 0 ≤ J a 5 → (∀ b, b ≠ a → b ≠ k0 → b ≠ k1 → b ≠ k2 → b ≠ k3 → J b = J2 b) → (∀ q, q < k → pos (I ov) (I fv) m n q < n ∧ (J k0 q, J k1 q, J k2 q, J k3 q) = (ch (I ov) (I fv) m n (pos (I ov) (I fv) m n q)).2) →
      RR X Y Q 0 0 57 [some (.inr (some 10)), some (.inr (some o)), some (.inr (some f)), some (.inr (some a)), some (.inl w), some (.inl z)] [] T L P J hn := by
    intro J2 hJ2 d
    induction d using Nat.strongRecOn with
    | ind d ih =>
      intro i k z w J hz hw hd hi hik hkn hkk h4 h5 h50 hfr harr
      subst hz; subst hw
      have jf : J f 1 = n := by rw [hfr f fa f0 f1 f2 f3, hJ2.1 f (by omega)]; exact cf
      have e14 : J 14 = J2 14 := hfr 14 (by omega) (by omega) (by omega) (by omega) (by omega)
      have e15 : J 15 = J2 15 := hfr 15 (by omega) (by omega) (by omega) (by omega) (by omega)
      have e16 : J 16 = J2 16 := hfr 16 (by omega) (by omega) (by omega) (by omega) (by omega)
      have e17 : J 17 = J2 17 := hfr 17 (by omega) (by omega) (by omega) (by omega) (by omega)
      have hl0 := ls_in (I ov) (I fv) m n hn0 n 0 (by omega)
      refine r_iload K dX4_plan_57 rfl ?_
      refine r_aload_n K dX4_plan_59 rfl ?_
      refine r_getI K dX4_plan_60 f_X4_33 rfl (by first | assumption | exact hW.1 _ _ rfl | exact hW.2.2.1 _ _ _ rfl) ?_
      rw [jf]
      refine r_icmp_ge K 123 dX4_plan_63 (by decide) (fun c63 => ?_) (fun c63 => ?_)
      · have hin : i = n := by omega
        exact q_vret K hQ rfl dX4_plan_123 (Nat.le_refl _) (Nat.le_refl _) (⟨rfl, rfl, rfl, rfl, rfl, fun b hb => by
          rcases hb with h | h
          · rw [hfr b (by omega) (by omega) (by omega) (by omega) (by omega)]; exact hJ2.1 b (by omega)
          · rw [hfr b (by omega) (by omega) (by omega) (by omega) (by omega)]; exact hJ2.1 b (by omega), k, by omega, fun q hq => (harr q hq).1, h4, by
          have hpk : pos (I ov) (I fv) m n k = n := by omega
          rw [hpk, ls_n] at h5; omega, fun q hq => (harr q hq).2⟩)
      · refine r_iload K dX4_plan_66 rfl ?_
        refine r_iload K dX4_plan_68 rfl ?_
        refine r_icmp_ne K 117 dX4_plan_70 (by decide) (fun c70 => ?_) (fun c70 => ?_)
        · refine r_iinc K dX4_plan_117 (by decide) rfl ?_
          refine r_goto K 57 dX4_plan_120 (by decide) ?_
          first
            | exact ih _ (by omega) (i + 1) k _ _ J (by omega) rfl rfl (by omega) (by omega) hkn hkk h4 h5 h50 hfr harr
            | (have hps : pos (I ov) (I fv) m n (k + 1) = i + (ch (I ov) (I fv) m n i).2.2.1.toNat := by rw [pos, hpi]
               refine ih _ (by omega) (i + 1) (k + 1) _ _ J1 (by omega) (by rw [hps]; omega) rfl (by omega) (by rw [hps]; omega) (by rw [hps]; omega) (by rw [hps]; omega) ?_ ?_ ?_ (fun b b1 b2 b3 b4 b5 => ?_) (fun q hq => ?_)
               · rw [hJ1, mI_nj (by decide), mI_eq]; omega
               · rw [hJ1, mI_eq, hps]; omega
               · rw [hJ1, mI_eq]
                 have : 0 ≤ spr (ch (I ov) (I fv) m n i).2.1 (ch (I ov) (I fv) m n i).2.2.1 := by
                   unfold spr
                   split
                   · omega
                   · split <;> omega
                 omega
               · rw [hJ1, mI_ne b1, mI_ne b1, mI_ne b5, mI_ne b4, mI_ne b3, mI_ne b2]; exact hfr b b1 b2 b3 b4 b5
               · rw [hJ1]
                 simp only [mI_row, mI_ne, ne_eq, not_false_eq_true, e0, e1, e2, e3, d1, d2, d3, d4, d5, d6, e0.symm, e1.symm, e2.symm, e3.symm, d1.symm, d2.symm, d3.symm, d4.symm, d5.symm, d6.symm]
                 by_cases eq : q = k
                 · subst eq
                   simp only [if_true]
                   exact ⟨by omega, by rw [hpi]⟩
                 · simp only [if_neg eq]
                   exact harr q (by omega))
        · have hpi : pos (I ov) (I fv) m n k = i := by omega
          have hok := ch_ok (A := I ov) (B := I fv) (m := m) hn0 (show i < n by omega)
          have hcc := hJ2.2.2.2 i (by omega) (by omega)
          simp only [Prod.ext_iff] at hcc
          obtain ⟨q0, q1, q2, q3⟩ := hcc
          have hli := ls_in (I ov) (I fv) m n hn0 (n - i) i (by omega)
          rw [hpi] at h5
          refine r_aload_n K dX4_plan_73 rfl ?_
          refine r_aload_n K dX4_plan_74 rfl ?_
          refine r_getR K dX4_plan_75 f_X4_21 rfl (by first | assumption | exact hW.1 _ _ rfl | exact hW.2.2.1 _ _ _ rfl) (by first | assumption | exact hW.1 _ _ rfl | exact hW.2.2.1 _ _ _ rfl) ?_
          refine r_iload K dX4_plan_78 rfl ?_
          refine r_iald K dX4_plan_80 (by first | assumption | exact hW.1 _ _ rfl | exact hW.2.2.1 _ _ _ rfl) (by omega) (by omega) ?_
          simp only [Int.toNat_natCast]
          rw [e14, q0]
          refine r_aload_n K dX4_plan_81 rfl ?_
          refine r_getR K dX4_plan_82 f_X4_24 rfl (by first | assumption | exact hW.1 _ _ rfl | exact hW.2.2.1 _ _ _ rfl) (by first | assumption | exact hW.1 _ _ rfl | exact hW.2.2.1 _ _ _ rfl) ?_
          refine r_iload K dX4_plan_85 rfl ?_
          refine r_iald K dX4_plan_87 (by first | assumption | exact hW.1 _ _ rfl | exact hW.2.2.1 _ _ _ rfl) (by omega) (by omega) ?_
          simp only [Int.toNat_natCast]
          rw [e15, q1]
          refine r_aload_n K dX4_plan_88 rfl ?_
          refine r_getR K dX4_plan_89 f_X4_27 rfl (by first | assumption | exact hW.1 _ _ rfl | exact hW.2.2.1 _ _ _ rfl) (by first | assumption | exact hW.1 _ _ rfl | exact hW.2.2.1 _ _ _ rfl) ?_
          refine r_iload K dX4_plan_92 rfl ?_
          refine r_iald K dX4_plan_94 (by first | assumption | exact hW.1 _ _ rfl | exact hW.2.2.1 _ _ _ rfl) (by omega) (by omega) ?_
          simp only [Int.toNat_natCast]
          rw [e16, q2]
          refine r_aload_n K dX4_plan_95 rfl ?_
          refine r_getR K dX4_plan_96 f_X4_30 rfl (by first | assumption | exact hW.1 _ _ rfl | exact hW.2.2.1 _ _ _ rfl) (by first | assumption | exact hW.1 _ _ rfl | exact hW.2.2.1 _ _ _ rfl) ?_
          refine r_iload K dX4_plan_99 rfl ?_
          refine r_iald K dX4_plan_101 (by first | assumption | exact hW.1 _ _ rfl | exact hW.2.2.1 _ _ _ rfl) (by omega) (by omega) ?_
          simp only [Int.toNat_natCast]
          rw [e17, q3]
          refine rcV4i K dX4_plan_102 c_X4_52 v_X3_append (by first | assumption | exact hW.1 _ _ rfl | exact hW.2.2.1 _ _ _ rfl) (k_X3_append (T := T) (L := L) (P := P) (I := J) (hn := hn) ha p0 p1 p2 p3 t0 t1 t2 t3 l0 l1 l2 l3 hok.1 (by omega) (by omega) (by omega) (by omega) (by omega) (by omega)) (by decide) (Nat.le_of_ble_eq_true rfl) ?_
          rintro _ J1 ⟨rfl, hJ1⟩
          rw [h4, Int.toNat_natCast] at hJ1
          have g15 : J1 15 = J2 15 := by rw [hJ1, mI_ne (by omega), mI_ne (by omega), mI_ne (by omega), mI_ne (by omega), mI_ne (by omega), mI_ne (by omega)]; exact e15
          refine r_iload K dX4_plan_105 rfl ?_
          refine r_aload_n K dX4_plan_107 rfl ?_
          refine r_getR K dX4_plan_108 f_X4_24 rfl (by first | assumption | exact hW.1 _ _ rfl | exact hW.2.2.1 _ _ _ rfl) (by first | assumption | exact hW.1 _ _ rfl | exact hW.2.2.1 _ _ _ rfl) ?_
          refine r_iload K dX4_plan_111 rfl ?_
          refine r_iald K dX4_plan_113 (by first | assumption | exact hW.1 _ _ rfl | exact hW.2.2.1 _ _ _ rfl) (by omega) (by omega) ?_
          simp only [Int.toNat_natCast]
          rw [g15, q1]
          refine r_iadd K dX4_plan_114 ?_
          refine r_istore K dX4_plan_115 (by decide) ?_
          refine r_iinc K dX4_plan_117 (by decide) rfl ?_
          refine r_goto K 57 dX4_plan_120 (by decide) ?_
          first
            | exact ih _ (by omega) (i + 1) k _ _ J (by omega) rfl rfl (by omega) (by omega) hkn hkk h4 h5 h50 hfr harr
            | (have hps : pos (I ov) (I fv) m n (k + 1) = i + (ch (I ov) (I fv) m n i).2.2.1.toNat := by rw [pos, hpi]
               refine ih _ (by omega) (i + 1) (k + 1) _ _ J1 (by omega) (by rw [hps]; omega) rfl (by omega) (by rw [hps]; omega) (by rw [hps]; omega) (by rw [hps]; omega) ?_ ?_ ?_ (fun b b1 b2 b3 b4 b5 => ?_) (fun q hq => ?_)
               · rw [hJ1, mI_nj (by decide), mI_eq]; omega
               · rw [hJ1, mI_eq, hps]; omega
               · rw [hJ1, mI_eq]
                 have : 0 ≤ spr (ch (I ov) (I fv) m n i).2.1 (ch (I ov) (I fv) m n i).2.2.1 := by
                   unfold spr
                   split
                   · omega
                   · split <;> omega
                 omega
               · rw [hJ1, mI_ne b1, mI_ne b1, mI_ne b5, mI_ne b4, mI_ne b3, mI_ne b2]; exact hfr b b1 b2 b3 b4 b5
               · rw [hJ1]
                 simp only [mI_row, mI_ne, ne_eq, not_false_eq_true, e0, e1, e2, e3, d1, d2, d3, d4, d5, d6, e0.symm, e1.symm, e2.symm, e3.symm, d1.symm, d2.symm, d3.symm, d4.symm, d5.symm, d6.symm]
                 by_cases eq : q = k
                 · subst eq
                   simp only [if_true]
                   exact ⟨by omega, by rw [hpi]⟩
                 · simp only [if_neg eq]
                   exact harr q (by omega))
  -- the first loop: the bytes are planned, from the last on
  have loop1 : ∀ (d : Nat) (z : Int) (g5 : Option PV) (J : Nat → Nat → Int), z = (d : Int) - 1 → d ≤ n → pInv I (I ov) (I fv) m n d J → RR X Y Q 0 0 18 [some (.inr (some 10)), some (.inr (some o)), some (.inr (some f)), some (.inr (some a)), some (.inl z), g5] [] T L P J hn := by
    intro d
    induction d with
    | zero =>
      intro z g5 J hz hd hJ
      refine r_iload K dX4_plan_18 rfl ?_
      refine r_if_lt K 47 dX4_plan_20 (by decide) (fun c20 => ?_) (fun c20 => ?_)
      · refine r_aload_n K dX4_plan_47 rfl ?_
        refine rcV0i K dX4_plan_48 c_X4_47 v_X3_clear (by first | assumption | exact hW.1 _ _ rfl | exact hW.2.2.1 _ _ _ rfl) (k_X3_clear (T := T) (L := L) (P := P) (I := J) (hn := hn) ha) (by decide) (Nat.le_of_ble_eq_true rfl) ?_
        rintro _ J1 ⟨rfl, hJ1⟩
        refine r_iconst K dX4_plan_51 ?_
        refine r_istore K dX4_plan_52 (by decide) ?_
        refine r_iconst K dX4_plan_54 ?_
        refine r_istore K dX4_plan_55 (by decide) ?_
        refine loop2 J hJ _ 0 0 0 0 J1 rfl rfl rfl (by omega) (by omega) (by simp [pos]) (by omega) ?_ ?_ ?_ (fun b b1 b2 b3 b4 b5 => ?_) (fun q hq => absurd hq (by omega))
        · rw [hJ1, mI_nj (by decide), mI_eq]; rfl
        · rw [hJ1, mI_eq]; rfl
        · rw [hJ1, mI_eq]; decide
        · rw [hJ1, mI_ne b1, mI_ne b1]
      · exact absurd c20 (by omega)
    | succ d ih =>
      intro z g5 J hz hd hJ
      have hz : z = d := by omega
      subst hz
      have jo : J o = I o := hJ.1 o (by omega)
      have jov : J ov = I ov := hJ.1 ov (by omega)
      have jf : J f = I f := hJ.1 f (by omega)
      have jfv : J fv = I fv := hJ.1 fv (by omega)
      have hfr := k_findRuns (T := T) (L := L) (P := P) (I := J) (hn := hn) (i := d) hW ho po hov lov (by rw [jo]; exact co) hm hf pf hfv lfv (by rw [jf]; exact cf) hn0 (by omega) (by omega) (by omega) (by omega) (by omega) (by omega) (by omega) (by omega) (by omega) (by omega) (by omega) (by omega) (by omega) (by rw [jov]; exact hA0) (by rw [jfv]; exact hB0) (by rw [jov, jfv]; exact hJ.2.1)
      rw [jov, jfv] at hfr
      refine r_iload K dX4_plan_18 rfl ?_
      refine r_if_lt K 47 dX4_plan_20 (by decide) (fun c20 => ?_) (fun c20 => ?_)
      · exact absurd c20 (by omega)
      · refine r_aload_n K dX4_plan_23 rfl ?_
        refine r_aload_n K dX4_plan_24 rfl ?_
        refine r_aload_n K dX4_plan_25 rfl ?_
        refine r_iload K dX4_plan_26 rfl ?_
        refine rcV3i K dX4_plan_28 c_X4_39 v_X4_findRuns (by first | assumption | exact hW.1 _ _ rfl | exact hW.2.2.1 _ _ _ rfl) hfr (by decide) (Nat.le_of_ble_eq_true rfl) ?_
        rintro _ J1 ⟨rfl, hJ1⟩
        refine r_aload_n K dX4_plan_31 rfl ?_
        refine r_iload K dX4_plan_32 rfl ?_
        refine r_aload_n K dX4_plan_34 rfl ?_
        refine r_getI K dX4_plan_35 f_X4_33 rfl (by first | assumption | exact hW.1 _ _ rfl | exact hW.2.2.1 _ _ _ rfl) ?_
        rw [hJ1.1 f (by omega) (by omega) (by omega), jf, cf]
        refine rcV2i K dX4_plan_38 c_X4_43 v_X4_chooseStep (by first | assumption | exact hW.1 _ _ rfl | exact hW.2.2.1 _ _ _ rfl) (k_chooseStep (T := T) (L := L) (P := P) (I := J1) (hn := hn) (i := d) (n := n) hW (by omega) hn0 (fun j h1 h2 => by
          rw [hJ1.1 13 (by omega) (by omega) (by omega), hJ.2.2.1 j (by omega) h2]
          have := ls_in (I ov) (I fv) m n hn0 (n - j) j (by omega)
          omega) (by rw [hJ1.2.2.2.2.1]; exact (cpy_in (I ov) (I fv) m n d).2.1) (by rw [hJ1.2.2.2.2.2.2.1]; exact (shf_in (I ov) (I fv) m n d).2.1) (fun h => by
          have h8 := hJ1.2.2.2.2.2.2.2 h
          have h7 := hJ1.2.2.2.2.2.2.1
          have hs := (shf_in (I ov) (I fv) m n d).2.2 (by rw [h7] at h; exact h)
          rw [h8]
          have : (mx (isS (I ov) (I fv) d) (rn (I ov) (I fv) m n d) m).2 < m := hs.1
          omega)) (by decide) (Nat.le_of_ble_eq_true rfl) ?_
        rintro _ J2 ⟨rfl, hJ2⟩
        refine r_iinc K dX4_plan_41 (by decide) rfl ?_
        refine r_goto K 18 dX4_plan_44 (by decide) ?_
        exact ih _ _ J2 (by omega) (by omega) (pStep (by omega) hJ hJ1 hJ2)
  refine r_aload_n K dX4_plan_0 rfl ?_
  refine r_getR K dX4_plan_1 f_X4_18 rfl (by first | assumption | exact hW.1 _ _ rfl | exact hW.2.2.1 _ _ _ rfl) (by first | assumption | exact hW.1 _ _ rfl | exact hW.2.2.1 _ _ _ rfl) ?_
  refine r_aload_n K dX4_plan_4 rfl ?_
  refine r_getI K dX4_plan_5 f_X4_33 rfl (by first | assumption | exact hW.1 _ _ rfl | exact hW.2.2.1 _ _ _ rfl) ?_
  rw [cf]
  refine r_iconst K dX4_plan_8 ?_
  refine r_iast K dX4_plan_9 (by first | assumption | exact hW.1 _ _ rfl | exact hW.2.2.1 _ _ _ rfl) (by omega) (by omega) ?_
  refine r_aload_n K dX4_plan_10 rfl ?_
  refine r_getI K dX4_plan_11 f_X4_33 rfl (by first | assumption | exact hW.1 _ _ rfl | exact hW.2.2.1 _ _ _ rfl) ?_
  rw [mI_ne (by omega), cf]
  refine r_iconst K dX4_plan_14 ?_
  refine r_isub K dX4_plan_15 ?_
  refine r_istore K dX4_plan_16 (by decide) ?_
  refine loop1 n _ _ _ rfl (Nat.le_refl _) ⟨fun b hb => mI_ne (by omega), fun h => absurd h (by omega), fun j h1 h2 => ?_, fun j h1 h2 => absurd h2 (by omega)⟩
  have : j = n := by omega
  subst this
  simp only [Int.toNat_natCast]
  rw [mI_eq, ls_n]
end PLA
end
section
section SHE
variable {T L : Nat → Nat} {P : Nat → Nat → Option Nat} {I : Nat → Nat → Int} {hn : Nat}
theorem Wd.ver (hW : Wd T L P) {v : Nat} (h : v < 5) : P 7 v = some (18 + 2 * v) ∧ T (18 + 2 * v) = 0 ∧ P (18 + 2 * v) 0 = some (19 + 2 * v) ∧ T (19 + 2 * v) = 10 ∧ L (19 + 2 * v) = 120 := by
  match v, h with
  | 0, _ => exact ⟨hW.2.2.1 _ _ _ rfl, hW.1 _ _ rfl, hW.2.2.1 _ _ _ rfl, hW.1 _ _ rfl, hW.2.1 _ _ rfl (by decide)⟩
  | 1, _ => exact ⟨hW.2.2.1 _ _ _ rfl, hW.1 _ _ rfl, hW.2.2.1 _ _ _ rfl, hW.1 _ _ rfl, hW.2.1 _ _ rfl (by decide)⟩
  | 2, _ => exact ⟨hW.2.2.1 _ _ _ rfl, hW.1 _ _ rfl, hW.2.2.1 _ _ _ rfl, hW.1 _ _ rfl, hW.2.1 _ _ rfl (by decide)⟩
  | 3, _ => exact ⟨hW.2.2.1 _ _ _ rfl, hW.1 _ _ rfl, hW.2.2.1 _ _ _ rfl, hW.1 _ _ rfl, hW.2.1 _ _ rfl (by decide)⟩
  | 4, _ => exact ⟨hW.2.2.1 _ _ _ rfl, hW.1 _ _ rfl, hW.2.2.1 _ _ _ rfl, hW.1 _ _ rfl, hW.2.1 _ _ rfl (by decide)⟩
  | n + 5, h => exact absurd h (by omega)
/-- has the shelf a version v -/
abbrev hasV (I : Nat → Nat → Int) (v : Int) : Prop := 0 ≤ v ∧ v < 5 ∧ 0 < I (18 + 2 * v.toNat) 1

set_option maxHeartbeats 4000000 in
set_option maxRecDepth 100000 in
theorem k_has {v : Int} (hW : Wd T L P) : pX5_has [.inr (some 6), .inl v] T L P I hn (.inl (if hasV I v then 1 else 0)) := by
  refine CT.by (by decide) (Nat.le_of_ble_eq_true rfl) fun X Y Q hQ K hv => ?_
  have l7 : L 7 = 5 := hW.2.1 7 5 rfl (by decide)
  refine r_iload_n K dX5_has_0 rfl ?_
  refine r_if_lt K 25 dX5_has_1 (by decide) (fun c1 => ?_) (fun c1 => ?_)
  · refine r_iconst K dX5_has_25 ?_
    exact q_zret K hQ rfl dX5_has_26 (by first | exact Or.inl rfl | exact Or.inr rfl) (Nat.le_refl _) (Nat.le_refl _) (⟨by first | rw [if_pos (by omega)] | rw [if_neg (by omega)], rfl, rfl, rfl, rfl, rfl⟩)
  · refine r_iload_n K dX5_has_4 rfl ?_
    refine r_iconst K dX5_has_5 ?_
    refine r_icmp_ge K 25 dX5_has_6 (by decide) (fun c6 => ?_) (fun c6 => ?_)
    · refine r_iconst K dX5_has_25 ?_
      exact q_zret K hQ rfl dX5_has_26 (by first | exact Or.inl rfl | exact Or.inr rfl) (Nat.le_refl _) (Nat.le_refl _) (⟨by first | rw [if_pos (by omega)] | rw [if_neg (by omega)], rfl, rfl, rfl, rfl, rfl⟩)
    · refine r_aload_n K dX5_has_9 rfl ?_
      refine r_getR K dX5_has_10 f_X5_11 rfl (by first | assumption | exact hW.1 _ _ rfl | exact hW.2.2.1 _ _ _ rfl) (by first | assumption | exact hW.1 _ _ rfl | exact hW.2.2.1 _ _ _ rfl) ?_
      refine r_iload_n K dX5_has_13 rfl ?_
      refine r_aald K dX5_has_14 (by first | exact Or.inl (by first | assumption | exact hW.1 _ _ rfl | exact hW.2.2.1 _ _ _ rfl) | exact Or.inr (by first | assumption | exact hW.1 _ _ rfl | exact hW.2.2.1 _ _ _ rfl)) (by omega) (by omega) ?_
      obtain ⟨w1, w2, w3, w4, w5⟩ := hW.ver (v := v.toNat) (by omega)
      rw [w1]
      refine r_getI K dX5_has_15 f_X5_37 rfl (by first | assumption | exact hW.1 _ _ rfl | exact hW.2.2.1 _ _ _ rfl) ?_
      refine r_if_le K 25 dX5_has_18 (by decide) (fun c18 => ?_) (fun c18 => ?_)
      · refine r_iconst K dX5_has_25 ?_
        exact q_zret K hQ rfl dX5_has_26 (by first | exact Or.inl rfl | exact Or.inr rfl) (Nat.le_refl _) (Nat.le_refl _) (⟨by first | rw [if_pos (by omega)] | rw [if_neg (by omega)], rfl, rfl, rfl, rfl, rfl⟩)
      · refine r_iconst K dX5_has_21 ?_
        refine r_goto K 26 dX5_has_22 (by decide) ?_
        exact q_zret K hQ rfl dX5_has_26 (by first | exact Or.inl rfl | exact Or.inr rfl) (Nat.le_refl _) (Nat.le_refl _) (⟨by first | rw [if_pos (by omega)] | rw [if_neg (by omega)], rfl, rfl, rfl, rfl, rfl⟩)
set_option maxHeartbeats 4000000 in
set_option maxRecDepth 100000 in
theorem k_bytesOf {v : Nat} (hW : Wd T L P) (hv : v < 5) : pX5_bytesOf [.inr (some 6), .inl (v : Int)] T L P I hn (.inr (some (18 + 2 * v))) := by
  refine CT.by (by decide) (Nat.le_of_ble_eq_true rfl) fun X Y Q hQ K hvv => ?_
  have l7 : L 7 = 5 := hW.2.1 7 5 rfl (by decide)
  refine r_aload_n K dX5_bytesOf_0 rfl ?_
  refine r_getR K dX5_bytesOf_1 f_X5_11 rfl (by first | assumption | exact hW.1 _ _ rfl | exact hW.2.2.1 _ _ _ rfl) (by first | assumption | exact hW.1 _ _ rfl | exact hW.2.2.1 _ _ _ rfl) ?_
  refine r_iload_n K dX5_bytesOf_4 rfl ?_
  refine r_aald K dX5_bytesOf_5 (by first | exact Or.inl (by first | assumption | exact hW.1 _ _ rfl | exact hW.2.2.1 _ _ _ rfl) | exact Or.inr (by first | assumption | exact hW.1 _ _ rfl | exact hW.2.2.1 _ _ _ rfl)) (by omega) (by omega) ?_
  rw [Int.toNat_natCast, (hW.ver hv).1]
  exact q_aret K hQ rfl dX5_bytesOf_6 (Nat.le_refl _) (Nat.le_refl _) (⟨rfl, rfl, rfl, rfl, rfl, rfl⟩)
def gre (c : Nat → Int) : Nat → Int
  | 0 => -1
  | k + 1 => if 0 < c k then k else gre c k
theorem gre_in (c : Nat → Int) : ∀ k, -1 ≤ gre c k ∧ gre c k < k ∧ (0 ≤ gre c k → 0 < c (gre c k).toNat) ∧ (∀ j : Nat, j < k → gre c k < j → ¬ 0 < c j)
  | 0 => ⟨by simp [gre], by simp [gre], fun h => absurd h (by simp [gre]), fun j h => absurd h (by omega)⟩
  | k + 1 => by
    have ih := gre_in c k
    simp only [gre]
    split
    · rename_i h
      exact ⟨by omega, by omega, fun _ => by rw [Int.toNat_natCast]; exact h, fun j h1 h2 => by omega⟩
    · rename_i h
      refine ⟨by omega, by omega, ih.2.2.1, fun j h1 h2 => ?_⟩
      rcases Nat.lt_or_ge j k with e | e
      · exact ih.2.2.2 j e h2
      · have : j = k := by omega
        subst this; exact h
/-- the greatest version there is, or -1 -/
abbrev grV (I : Nat → Nat → Int) : Int := gre (fun v => I (18 + 2 * v) 1) 5
set_option maxHeartbeats 4000000 in
set_option maxRecDepth 100000 in
theorem k_X5_greatest (hW : Wd T L P) : pX5_greatest [.inr (some 6)] T L P I hn (.inl (grV I)) := by
  refine CT.by (by decide) (Nat.le_of_ble_eq_true rfl) fun X Y Q hQ K hv => ?_
  have loop : ∀ (k : Nat) (z : Int), z = (k : Int) - 1 → k ≤ 5 → gre (fun v => I (18 + 2 * v) 1) k = grV I → RR X Y Q 0 0 2 [some (.inr (some 6)), some (.inl z)] [] T L P I hn := by
    intro k
    induction k with
    | zero =>
      intro z hz hk he
      refine r_iload_n K dX5_greatest_2 rfl ?_
      refine r_if_lt K 22 dX5_greatest_3 (by decide) (fun c3 => ?_) (fun c3 => ?_)
      · refine r_iconst K dX5_greatest_22 ?_
        exact q_iret K hQ rfl dX5_greatest_23 (Nat.le_refl _) (Nat.le_refl _) (⟨by rw [← he]; rfl, rfl, rfl, rfl, rfl, rfl⟩)
      · exact absurd c3 (by omega)
    | succ k ih =>
      intro z hz hk he
      have hz : z = k := by omega
      subst hz
      rw [gre] at he
      refine r_iload_n K dX5_greatest_2 rfl ?_
      refine r_if_lt K 22 dX5_greatest_3 (by decide) (fun c3 => ?_) (fun c3 => ?_)
      · exact absurd c3 (by omega)
      · refine r_aload_n K dX5_greatest_6 rfl ?_
        refine r_iload_n K dX5_greatest_7 rfl ?_
        refine rcV1p K dX5_greatest_8 c_X5_41 v_X5_has (hW.1 6 5 rfl) (k_has hW) (by decide) (Nat.le_of_ble_eq_true rfl) ?_
        refine r_if_eq K 16 dX5_greatest_11 (by decide) (fun c11 => ?_) (fun c11 => ?_)
        · have hno : ¬ 0 < I (18 + 2 * k) 1 := fun h => by
            rw [if_pos ⟨by omega, by omega, by rw [Int.toNat_natCast]; exact h⟩] at c11; exact absurd c11 (by decide)
          rw [if_neg hno] at he
          refine r_iinc K dX5_greatest_16 (by decide) rfl ?_
          refine r_goto K 2 dX5_greatest_19 (by decide) ?_
          exact ih _ (by omega) (by omega) he
        · have hyes : 0 < I (18 + 2 * k) 1 := by
            by_cases h : hasV I k
            · have := h.2.2; rw [Int.toNat_natCast] at this; exact this
            · rw [if_neg h] at c11; exact absurd rfl c11
          rw [if_pos hyes] at he
          refine r_iload_n K dX5_greatest_14 rfl ?_
          exact q_iret K hQ rfl dX5_greatest_15 (Nat.le_refl _) (Nat.le_refl _) (⟨by rw [← he], rfl, rfl, rfl, rfl, rfl⟩)
  refine r_iconst K dX5_greatest_0 ?_
  refine r_istore_n K dX5_greatest_1 (by decide) ?_
  exact loop 5 4 rfl (Nat.le_refl _) rfl
set_option maxHeartbeats 4000000 in
set_option maxRecDepth 100000 in
theorem k_replace {v : Nat} {b w : Nat} {n : Int} (hW : Wd T L P) (hv : v < 5) (g1 : T b = 0) (g2 : P b 0 = some w) (g3 : T w = 10) (h5 : 0 ≤ n) (h6 : n ≤ 120) (h7 : n ≤ I b 1) (h8 : I b 1 ≤ L w) : iX5_replace [.inr (some 6), .inl (v : Int), .inr (some b), .inl n] T L P I hn (fun r J => r = none ∧ ∃ J0, J0 = mI (mR I (19 + 2 * v) (fun j => if j < n.toNat then I w j else if j < 120 then 0 else I (19 + 2 * v) j)) (18 + 2 * v) 1 n ∧ (∀ c, c ≠ 9 → J c = J0 c) ∧ ∀ j, J 9 j = if j < 25 ∧ (j / 5 = v ∨ j % 5 = v) then 0 else J0 9 j) := by
  refine CT.by (by decide) (Nat.le_of_ble_eq_true rfl) fun X Y Q hQ K hvv => ?_
  have l7 : L 7 = 5 := hW.2.1 7 5 rfl (by decide)
  have l9 : L 9 = 25 := hW.2.1 9 25 rfl (by decide)
  obtain ⟨w1, w2, w3, w4, w5⟩ := hW.ver hv
  have htf := k_takeFirst (T := T) (L := L) (P := P) (I := I) (hn := hn) (n := n) w2 w3 w4 (by omega) g1 g2 g3 h5 (by omega) h7 h8
  rw [w5] at htf
  have loop : ∀ (J0 : Nat → Nat → Int) (d i : Nat) (z : Int) (J : Nat → Nat → Int), J0 = mI (mR I (19 + 2 * v) (fun j => if j < n.toNat then I w j else if j < 120 then 0 else I (19 + 2 * v) j)) (18 + 2 * v) 1 n → z = i → 5 - i = d → i ≤ 5 → (∀ c, c ≠ 9 → J c = J0 c) → (∀ j, J 9 j = if j < 25 ∧ ((j / 5 = v ∧ j % 5 < i) ∨ (j % 5 = v ∧ j / 5 < i)) then 0 else J0 9 j) → RR X Y Q 0 0 14 [some (.inr (some 6)), some (.inl (v : Int)), some (.inr (some b)), some (.inl n), some (.inl z)] [] T L P J hn := by
    intro J0 d
    induction d using Nat.strongRecOn with
    | ind d ih =>
      intro i z J hJ0 hz hd hi hfr hrow
      subst hz
      refine r_iload K dX5_replace_14 rfl ?_
      refine r_iconst K dX5_replace_16 ?_
      refine r_icmp_ge K 50 dX5_replace_17 (by decide) (fun c17 => ?_) (fun c17 => ?_)
      · exact q_vret K hQ rfl dX5_replace_50 (Nat.le_refl _) (Nat.le_refl _) (⟨rfl, rfl, rfl, rfl, rfl, J0, hJ0, hfr, fun j => by
          rw [hrow j]
          by_cases e : j < 25 ∧ (j / 5 = v ∨ j % 5 = v)
          · rw [if_pos e, if_pos (by omega)]
          · rw [if_neg e, if_neg (by omega)]⟩)
      · refine r_aload_n K dX5_replace_20 rfl ?_
        refine r_getR K dX5_replace_21 f_X5_23 rfl (by first | assumption | exact hW.1 _ _ rfl | exact hW.2.2.1 _ _ _ rfl) (by first | assumption | exact hW.1 _ _ rfl | exact hW.2.2.1 _ _ _ rfl) ?_
        refine r_iload_n K dX5_replace_24 rfl ?_
        refine r_iconst K dX5_replace_25 ?_
        refine r_imul K dX5_replace_26 ?_
        refine r_iload K dX5_replace_27 rfl ?_
        refine r_iadd K dX5_replace_29 ?_
        refine r_iconst K dX5_replace_30 ?_
        refine r_zast K dX5_replace_31 (by first | assumption | exact hW.1 _ _ rfl | exact hW.2.2.1 _ _ _ rfl) (by omega) (by omega) (by first | exact Or.inl rfl | exact Or.inr rfl) ?_
        refine r_aload_n K dX5_replace_32 rfl ?_
        refine r_getR K dX5_replace_33 f_X5_23 rfl (by first | assumption | exact hW.1 _ _ rfl | exact hW.2.2.1 _ _ _ rfl) (by first | assumption | exact hW.1 _ _ rfl | exact hW.2.2.1 _ _ _ rfl) ?_
        refine r_iload K dX5_replace_36 rfl ?_
        refine r_iconst K dX5_replace_38 ?_
        refine r_imul K dX5_replace_39 ?_
        refine r_iload_n K dX5_replace_40 rfl ?_
        refine r_iadd K dX5_replace_41 ?_
        refine r_iconst K dX5_replace_42 ?_
        refine r_zast K dX5_replace_43 (by first | assumption | exact hW.1 _ _ rfl | exact hW.2.2.1 _ _ _ rfl) (by omega) (by omega) (by first | exact Or.inl rfl | exact Or.inr rfl) ?_
        refine r_iinc K dX5_replace_44 (by decide) rfl ?_
        refine r_goto K 14 dX5_replace_47 (by decide) ?_
        refine ih _ (by omega) (i + 1) _ _ hJ0 (by omega) rfl (by omega) (fun c hc => by rw [mI_ne hc, mI_ne hc]; exact hfr c hc) (fun j => ?_)
        rw [mI_row, mI_row, hrow j]
        by_cases e1 : j = ((i : Int) * 5 + (v : Int)).toNat
        · rw [if_pos e1, if_pos (by omega)]
        · rw [if_neg e1]
          by_cases e2 : j = ((v : Int) * 5 + (i : Int)).toNat
          · rw [if_pos e2, if_pos (by omega)]
          · rw [if_neg e2]
            by_cases e : j < 25 ∧ ((j / 5 = v ∧ j % 5 < i) ∨ (j % 5 = v ∧ j / 5 < i))
            · rw [if_pos e, if_pos (by omega)]
            · rw [if_neg e, if_neg (by omega)]
  refine r_aload_n K dX5_replace_0 rfl ?_
  refine r_getR K dX5_replace_1 f_X5_11 rfl (by first | assumption | exact hW.1 _ _ rfl | exact hW.2.2.1 _ _ _ rfl) (by first | assumption | exact hW.1 _ _ rfl | exact hW.2.2.1 _ _ _ rfl) ?_
  refine r_iload_n K dX5_replace_4 rfl ?_
  refine r_aald K dX5_replace_5 (by first | exact Or.inl (by first | assumption | exact hW.1 _ _ rfl | exact hW.2.2.1 _ _ _ rfl) | exact Or.inr (by first | assumption | exact hW.1 _ _ rfl | exact hW.2.2.1 _ _ _ rfl)) (by omega) (by omega) ?_
  rw [Int.toNat_natCast, w1]
  refine r_aload_n K dX5_replace_6 rfl ?_
  refine r_iload_n K dX5_replace_7 rfl ?_
  refine rcV2i K dX5_replace_8 c_X5_45 v_X0_takeFirst (by first | assumption | exact hW.1 _ _ rfl | exact hW.2.2.1 _ _ _ rfl) htf (by decide) (Nat.le_of_ble_eq_true rfl) ?_
  rintro _ J1 ⟨rfl, hJ1⟩
  refine r_iconst K dX5_replace_11 ?_
  refine r_istore K dX5_replace_12 (by decide) ?_
  exact loop J1 _ 0 0 J1 hJ1 rfl rfl (by omega) (fun _ _ => rfl) (fun j => by rw [if_neg (by omega)])
end SHE
end
section
/-- a patch of the shelf: its own cell and the four behind it -/
def GP (T L : Nat → Nat) (P : Nat → Nat → Option Nat) (hn q : Nat) : Prop := 84 ≤ q ∧ q + 5 ≤ 3 + hn ∧ T q = 3 ∧ (P q 0 = some (q + 1) ∧ P q 1 = some (q + 2) ∧ P q 2 = some (q + 3) ∧ P q 3 = some (q + 4)) ∧ (T (q + 1) = 10 ∧ T (q + 2) = 10 ∧ T (q + 3) = 10 ∧ T (q + 4) = 10) ∧ (L (q + 1) = 120 ∧ L (q + 2) = 120 ∧ L (q + 3) = 120 ∧ L (q + 4) = 120)
/-- the patch q holds the plan from version a to version b -/
def PKv (I : Nat → Nat → Int) (a b q : Nat) : Prop := PK (I (19 + 2 * a)) (I (19 + 2 * b)) (I (18 + 2 * a) 1).toNat (I (18 + 2 * b) 1).toNat q (q + 1) (q + 2) (q + 3) (q + 4) I
def PIv (T L : Nat → Nat) (P : Nat → Nat → Option Nat) (I : Nat → Nat → Int) (hn : Nat) : Prop :=
  (∀ t q, t < 25 → P 8 t = some q → GP T L P hn q) ∧ (∀ t t' q q', t < 25 → t' < 25 → t ≠ t' → P 8 t = some q → P 8 t' = some q' → q + 5 ≤ q' ∨ q' + 5 ≤ q) ∧ (∀ t, t < 25 → I 9 t = 0 ∨ I 9 t = 1) ∧ ∀ a b, a < 5 → b < 5 → I 9 (a * 5 + b) = 1 → ∃ q, P 8 (a * 5 + b) = some q ∧ PKv I a b q
def VS (I : Nat → Nat → Int) : Prop := ∀ v, v < 5 → 0 ≤ I (18 + 2 * v) 1 ∧ I (18 + 2 * v) 1 ≤ 120 ∧ ∀ j, j < 120 → 0 ≤ I (19 + 2 * v) j ∧ I (19 + 2 * v) j < 256
/-- what always holds of the shelf -/
def CI (T L : Nat → Nat) (P : Nat → Nat → Option Nat) (I : Nat → Nat → Int) (hn : Nat) : Prop := Wd T L P ∧ 81 ≤ hn ∧ VS I ∧ PIv T L P I hn
theorem PK.cong {A B : Nat → Int} {m n a k0 k1 k2 k3 : Nat} {I J : Nat → Nat → Int} (h : PK A B m n a k0 k1 k2 k3 I) (e : J a = I a) (e0 : J k0 = I k0) (e1 : J k1 = I k1) (e2 : J k2 = I k2) (e3 : J k3 = I k3) : PK A B m n a k0 k1 k2 k3 J := by
  unfold PK at h ⊢
  rw [e, e0, e1, e2, e3]; exact h
theorem PKv.cong {I J : Nat → Nat → Int} {a b q : Nat} (h : PKv I a b q) (ha : a < 5) (hb : b < 5) (e1 : ∀ k, 18 ≤ k → k ≤ 27 → J k = I k) (e2 : ∀ k, q ≤ k → k ≤ q + 4 → J k = I k) : PKv J a b q := by
  unfold PKv at h ⊢
  rw [e1 (19 + 2 * a) (by omega) (by omega), e1 (19 + 2 * b) (by omega) (by omega), e1 (18 + 2 * a) (by omega) (by omega), e1 (18 + 2 * b) (by omega) (by omega)]
  exact h.cong (e2 _ (by omega) (by omega)) (e2 _ (by omega) (by omega)) (e2 _ (by omega) (by omega)) (e2 _ (by omega) (by omega)) (e2 _ (by omega) (by omega))
theorem VS.cong {I J : Nat → Nat → Int} (h : VS I) (e1 : ∀ k, 18 ≤ k → k ≤ 27 → J k = I k) : VS J := fun v hv => by
  rw [e1 (18 + 2 * v) (by omega) (by omega), e1 (19 + 2 * v) (by omega) (by omega)]; exact h v hv
/-- other cells may change -/
theorem CI.cong {T L : Nat → Nat} {P : Nat → Nat → Option Nat} {I J : Nat → Nat → Int} {hn : Nat} (h : CI T L P I hn) (e : ∀ k, k = 9 ∨ (18 ≤ k ∧ k ≤ 27) ∨ 84 ≤ k → J k = I k) : CI T L P J hn := by
  obtain ⟨h1, h2, h3, h4, h5, h6, h7⟩ := h
  refine ⟨h1, h2, h3.cong (fun k a b => e k (by omega)), h4, h5, by rw [e 9 (by omega)]; exact h6, fun a b ha hb h8 => ?_⟩
  rw [e 9 (by omega)] at h8
  obtain ⟨q, g1, g2⟩ := h7 a b ha hb h8
  exact ⟨q, g1, g2.cong ha hb (fun k a b => e k (by omega)) (fun k a b => e k (by have := (h4 _ q (by omega) g1).1; omega))⟩
def pIni (a : Nat) (M : Mm) : Mm := na a 3 10 120 (na a 2 10 120 (na a 1 10 120 (na a 0 10 120 M)))
section PAO
variable {T L : Nat → Nat} {P : Nat → Nat → Option Nat} {I : Nat → Nat → Int} {hn : Nat}

set_option maxHeartbeats 4000000 in
set_option maxRecDepth 100000 in
theorem k_X3_init {a : Nat} (h1 : T a = 3) (h2 : a < 3 + hn) : gX3_init 4 480 [.inr (some a)] T L P I hn (isM (pIni a (T, L, P, I, hn))) := by
  refine CT.by (by decide) (Nat.le_of_ble_eq_true rfl) fun X Y Q hQ K hv => ?_
  refine r_aload_n K dX3_init_0 rfl ?_
  refine r_obj K dX3_init_1 o_X3_3 (Nat.le_of_ble_eq_true rfl) (Nat.le_of_ble_eq_true rfl) ?_
  refine r_aload_n K dX3_init_4 rfl ?_
  refine r_bipush K dX3_init_5 ?_
  refine r_newa K dX3_init_7 (Or.inl ⟨rfl, rfl⟩) aw_int (by omega) (by omega) (Nat.le_of_ble_eq_true rfl) (Nat.le_of_ble_eq_true rfl) ?_
  refine r_putR K dX3_init_9 f_X3_9 rfl p_X3_9 ⟨rfl, rfl⟩ (by simp only [va_up]; (repeat rw [if_neg (by omega)]); assumption) ?_
  refine r_aload_n K dX3_init_12 rfl ?_
  refine r_bipush K dX3_init_13 ?_
  refine r_newa K dX3_init_15 (Or.inl ⟨rfl, rfl⟩) aw_int (by omega) (by omega) (Nat.le_of_ble_eq_true rfl) (Nat.le_of_ble_eq_true rfl) ?_
  refine r_putR K dX3_init_17 f_X3_15 rfl p_X3_15 ⟨rfl, rfl⟩ (by simp only [va_up]; (repeat rw [if_neg (by omega)]); assumption) ?_
  refine r_aload_n K dX3_init_20 rfl ?_
  refine r_bipush K dX3_init_21 ?_
  refine r_newa K dX3_init_23 (Or.inl ⟨rfl, rfl⟩) aw_int (by omega) (by omega) (Nat.le_of_ble_eq_true rfl) (Nat.le_of_ble_eq_true rfl) ?_
  refine r_putR K dX3_init_25 f_X3_18 rfl p_X3_18 ⟨rfl, rfl⟩ (by simp only [va_up]; (repeat rw [if_neg (by omega)]); assumption) ?_
  refine r_aload_n K dX3_init_28 rfl ?_
  refine r_bipush K dX3_init_29 ?_
  refine r_newa K dX3_init_31 (Or.inl ⟨rfl, rfl⟩) aw_int (by omega) (by omega) (Nat.le_of_ble_eq_true rfl) (Nat.le_of_ble_eq_true rfl) ?_
  refine r_putR K dX3_init_33 f_X3_21 rfl p_X3_21 ⟨rfl, rfl⟩ (by simp only [va_up]; (repeat rw [if_neg (by omega)]); assumption) ?_
  exact q_vret K hQ rfl dX3_init_36 (Nat.le_refl _) (Nat.le_refl _) (⟨rfl, rfl⟩)
theorem nwP {T1 L1 : Nat → Nat} {P1 : Nat → Nat → Option Nat} {I1 : Nat → Nat → Int} {n1 : Nat} (h : (T1, L1, P1, I1, n1) = pIni (3 + hn) (nw 3 0 (T, L, P, I, hn))) :
    n1 = hn + 5 ∧ (∀ k, k < 3 + hn → T1 k = T k ∧ L1 k = L k ∧ P1 k = P k ∧ I1 k = I k) ∧ T1 (3 + hn) = 3 ∧ (P1 (3 + hn) 0 = some (3 + hn + 1) ∧ P1 (3 + hn) 1 = some (3 + hn + 2) ∧ P1 (3 + hn) 2 = some (3 + hn + 3) ∧ P1 (3 + hn) 3 = some (3 + hn + 4)) ∧ (T1 (3 + hn + 1) = 10 ∧ T1 (3 + hn + 2) = 10 ∧ T1 (3 + hn + 3) = 10 ∧ T1 (3 + hn + 4) = 10) ∧ (L1 (3 + hn + 1) = 120 ∧ L1 (3 + hn + 2) = 120 ∧ L1 (3 + hn + 3) = 120 ∧ L1 (3 + hn + 4) = 120) := by
  simp only [pIni, na, nw, pr, Prod.mk.injEq] at h
  obtain ⟨rfl, rfl, rfl, rfl, rfl⟩ := h
  have n1 : ¬ (3 + hn = 3 + (hn + 1)) := by omega
  have n2 : ¬ (3 + hn = 3 + (hn + 1 + 1)) := by omega
  have n3 : ¬ (3 + hn = 3 + (hn + 1 + 1 + 1)) := by omega
  have n4 : ¬ (3 + hn = 3 + (hn + 1 + 1 + 1 + 1)) := by omega
  refine ⟨rfl, fun k hk => ⟨?_, ?_, ?_, ?_⟩, ?_, ⟨?_, ?_, ?_, ?_⟩, ⟨?_, ?_, ?_, ?_⟩, ⟨?_, ?_, ?_, ?_⟩⟩
  · simp only [va_up]; (repeat rw [if_neg (by omega)])
  · simp only [va_up]; (repeat rw [if_neg (by omega)])
  · simp only [va_up, mP]; (repeat rw [if_neg (by omega)])
  · simp only [va_up]; (repeat rw [if_neg (by omega)])
  · simp only [va_up]; (repeat rw [if_neg (by omega)]); simp
  · simp only [mP, va_up, mH, n1, n2, n3, n4, if_true, if_false]
    try rfl
  · simp only [mP, va_up, mH, n1, n2, n3, n4, if_true, if_false]
    try rfl
  · simp only [mP, va_up, mH, n1, n2, n3, n4, if_true, if_false]
    try rfl
  · simp only [mP, va_up, mH, n1, n2, n3, n4, if_true, if_false]
    try rfl
  · simp only [va_up]; (repeat first | rw [if_neg (by omega)] | rw [if_pos (by omega)])
  · simp only [va_up]; (repeat first | rw [if_neg (by omega)] | rw [if_pos (by omega)])
  · simp only [va_up]; (repeat first | rw [if_neg (by omega)] | rw [if_pos (by omega)])
  · simp only [va_up]; (repeat first | rw [if_neg (by omega)] | rw [if_pos (by omega)])
  · simp only [va_up]; (repeat first | rw [if_neg (by omega)] | rw [if_pos (by omega)])
  · simp only [va_up]; (repeat first | rw [if_neg (by omega)] | rw [if_pos (by omega)])
  · simp only [va_up]; (repeat first | rw [if_neg (by omega)] | rw [if_pos (by omega)])
  · simp only [va_up]; (repeat first | rw [if_neg (by omega)] | rw [if_pos (by omega)])
theorem Wd.keep {T1 L1 : Nat → Nat} {P1 : Nat → Nat → Option Nat} (h : Wd T L P) (e : ∀ k, k < 84 → T1 k = T k ∧ L1 k = L k ∧ (k ≠ 8 → P1 k = P k)) : Wd T1 L1 P1 := by
  have hw : ∀ k i q : Nat, (wP k)[i]? = some (some q) → k < 84 ∧ k ≠ 8 := by
    intro k i q hq
    rcases Nat.lt_or_ge k 84 with h1 | h1
    · refine ⟨h1, fun h => ?_⟩
      subst h
      simp [wP] at hq
    · exfalso
      obtain ⟨j, rfl⟩ : ∃ j, k = j + 84 := ⟨k - 84, by omega⟩
      simp [wP] at hq
  refine ⟨fun k t hk => ?_, fun k n hk h3 => ?_, fun k i q hq => ?_, ?_, ?_⟩
  · have : k < 84 := (List.getElem?_eq_some_iff.mp hk).1
    rw [(e k this).1]; exact h.1 k t hk
  · have : k < 84 := (List.getElem?_eq_some_iff.mp hk).1
    rw [(e k this).2.1]; exact h.2.1 k n hk h3
  · rw [(e k (hw k i q hq).1).2.2 (hw k i q hq).2]; exact h.2.2.1 k i q hq
  · rw [(e 1 (by omega)).2.1]; exact h.2.2.2.1
  · rw [(e 2 (by omega)).2.1]; exact h.2.2.2.2
theorem CI.new {T1 L1 : Nat → Nat} {P1 : Nat → Nat → Option Nat} {I1 : Nat → Nat → Int} {n1 t : Nat} (hC : CI T L P I hn) (h : (T1, L1, P1, I1, n1) = pIni (3 + hn) (nw 3 0 (T, L, P, I, hn))) (ht : t < 25) (hp : P 8 t = none) : CI T1 L1 (mP P1 8 t (some (3 + hn))) I1 n1 := by
  obtain ⟨e1, e2, e3, e4, e5, e6⟩ := nwP h
  obtain ⟨hW, h81, hV, hq1, hq2, hq3, hq4⟩ := hC
  have hI : ∀ k, k < 3 + hn → I1 k = I k := fun k hk => (e2 k hk).2.2.2
  have hP8 : ∀ t', mP P1 8 t (some (3 + hn)) 8 t' = if t' = t then some (3 + hn) else P 8 t' := fun t' => by rw [mP_row, (e2 8 (by omega)).2.2.1]
  have hPne : ∀ k, k ≠ 8 → mP P1 8 t (some (3 + hn)) k = P1 k := fun k hk => mP_ne hk
  have hold : ∀ q, GP T L P hn q → GP T1 L1 (mP P1 8 t (some (3 + hn))) n1 q := by
    rintro q ⟨a1, a2, a3, ⟨b0, b1, b2, b3⟩, ⟨c0, c1, c2, c3⟩, d0, d1, d2, d3⟩
    refine ⟨a1, by omega, by rw [(e2 q (by omega)).1]; exact a3, ?_, ?_, ?_⟩
    · rw [hPne q (by omega), (e2 q (by omega)).2.2.1]; exact ⟨b0, b1, b2, b3⟩
    · rw [(e2 (q + 1) (by omega)).1, (e2 (q + 2) (by omega)).1, (e2 (q + 3) (by omega)).1, (e2 (q + 4) (by omega)).1]; exact ⟨c0, c1, c2, c3⟩
    · rw [(e2 (q + 1) (by omega)).2.1, (e2 (q + 2) (by omega)).2.1, (e2 (q + 3) (by omega)).2.1, (e2 (q + 4) (by omega)).2.1]; exact ⟨d0, d1, d2, d3⟩
  have hnew : GP T1 L1 (mP P1 8 t (some (3 + hn))) n1 (3 + hn) := ⟨by omega, by omega, e3, by rw [hPne _ (by omega)]; exact e4, e5, e6⟩
  refine ⟨hW.keep (fun k hk => ⟨(e2 k (by omega)).1, (e2 k (by omega)).2.1, fun h8 => by rw [hPne k h8]; exact (e2 k (by omega)).2.2.1⟩), by omega, hV.cong (fun k a b => hI k (by omega)), fun t' q h1 h2 => ?_, fun t1 t2 q1 q2 h1 h2 h3 h4 h5 => ?_, fun t' h1 => by rw [hI 9 (by omega)]; exact hq3 t' h1, fun a b ha hb h8 => ?_⟩
  · rw [hP8] at h2
    by_cases e : t' = t
    · rw [if_pos e] at h2; cases h2; exact hnew
    · rw [if_neg e] at h2; exact hold q (hq1 t' q h1 h2)
  · rw [hP8] at h4 h5
    by_cases a1 : t1 = t
    · rw [if_pos a1] at h4
      rw [if_neg (by omega)] at h5
      cases h4
      have := (hq1 t2 q2 h2 h5).2.1
      omega
    · rw [if_neg a1] at h4
      by_cases a2 : t2 = t
      · rw [if_pos a2] at h5
        cases h5
        have := (hq1 t1 q1 h1 h4).2.1
        omega
      · rw [if_neg a2] at h5
        exact hq2 t1 t2 q1 q2 h1 h2 h3 h4 h5
  · rw [hI 9 (by omega)] at h8
    obtain ⟨q, g1, g2⟩ := hq4 a b ha hb h8
    have hne : a * 5 + b ≠ t := fun h => by rw [h, hp] at g1; cases g1
    refine ⟨q, by rw [hP8, if_neg hne]; exact g1, g2.cong ha hb (fun k a b => hI k (by omega)) (fun k a b => hI k ?_)⟩
    have := (hq1 _ q (by omega) g1).2.1
    omega
theorem CI.plan {a b q : Nat} {J : Nat → Nat → Int} (hC : CI T L P I hn) (ha : a < 5) (hb : b < 5) (hq : P 8 (a * 5 + b) = some q) (hfr : ∀ c, c < 10 ∨ (17 < c ∧ c ≠ q ∧ c ≠ q + 1 ∧ c ≠ q + 2 ∧ c ≠ q + 3 ∧ c ≠ q + 4) → J c = I c) (hK : PKv J a b q) : CI T L P (mI J 9 (a * 5 + b) 1) hn := by
  obtain ⟨hW, h81, hV, hq1, hq2, hq3, hq4⟩ := hC
  have h84 := (hq1 _ q (by omega) hq).1
  have hver : ∀ k, 18 ≤ k → k ≤ 27 → mI J 9 (a * 5 + b) 1 k = I k := fun k h1 h2 => by rw [mI_ne (by omega)]; exact hfr k (by omega)
  refine ⟨hW, h81, hV.cong hver, hq1, hq2, fun t ht => ?_, fun a' b' ha' hb' h8 => ?_⟩
  · rw [mI_row]
    split
    · exact Or.inr rfl
    · rw [hfr 9 (by omega)]; exact hq3 t ht
  · rw [mI_row] at h8
    by_cases e : a' * 5 + b' = a * 5 + b
    · have ea : a' = a := by omega
      have eb : b' = b := by omega
      subst ea; subst eb
      exact ⟨q, hq, hK.cong ha hb (fun k h1 h2 => mI_ne (by omega)) (fun k h1 h2 => mI_ne (by omega))⟩
    · rw [if_neg e, hfr 9 (by omega)] at h8
      obtain ⟨q', g1, g2⟩ := hq4 a' b' ha' hb' h8
      have hd := hq2 _ _ q' q (by omega) (by omega) e g1 hq
      have h84' := (hq1 _ q' (by omega) g1).1
      exact ⟨q', g1, g2.cong ha' hb' hver (fun k h1 h2 => by rw [mI_ne (by omega)]; exact hfr k (by omega))⟩
/-- the patch from a to b is there, and planned; of the fixed cells only the planner's, and which are planned, change -/
def pPo (I : Nat → Nat → Int) (a b : Nat) : Po := fun r T L P J hn => CI T L P J hn ∧ (∀ k, k < 84 → k < 9 ∨ 17 < k → J k = I k) ∧ ∃ q, r = some (.inr (some q)) ∧ GP T L P hn q ∧ PKv J a b q

set_option maxHeartbeats 4000000 in
set_option maxRecDepth 100000 in
theorem k_patchOf {a b : Nat} (hC : CI T L P I hn) (ha : a < 5) (hb : b < 5) : gX5_patchOf 5 486 [.inr (some 6), .inl (a : Int), .inl (b : Int)] T L P I hn (pPo I a b) := by
  refine CT.by (by decide) (Nat.le_of_ble_eq_true rfl) fun X Y Q hQ K hv => ?_
  have j69 : ∀ (T1 L1 : Nat → Nat) (P1 : Nat → Nat → Option Nat) (J : Nat → Nat → Int) (n1 ce sl q : Nat), CI T1 L1 P1 J n1 → (∀ k, k < 84 → k < 9 ∨ 17 < k → J k = I k) → P1 8 (a * 5 + b) = some q → PKv J a b q → ce ≤ 5 → sl ≤ 486 → RR X Y Q ce sl 69 [some (.inr (some 6)), some (.inl (a : Int)), some (.inl (b : Int)), some (.inl ((a : Int) * 5 + b))] [] T1 L1 P1 J n1 := by
    intro T1 L1 P1 J n1 ce sl q hC hfr hq hK hce hsl
    have hW := hC.1
    have l8 : L1 8 = 25 := hW.2.1 8 25 rfl (by decide)
    refine r_aload_n K dX5_patchOf_69 rfl ?_
    refine r_getR K dX5_patchOf_70 f_X5_19 rfl (by first | assumption | exact hW.1 _ _ rfl | exact hW.2.2.1 _ _ _ rfl) (by first | assumption | exact hW.1 _ _ rfl | exact hW.2.2.1 _ _ _ rfl) ?_
    refine r_iload_n K dX5_patchOf_73 rfl ?_
    refine r_aald K dX5_patchOf_74 (by first | exact Or.inl (by first | assumption | exact hW.1 _ _ rfl | exact hW.2.2.1 _ _ _ rfl) | exact Or.inr (by first | assumption | exact hW.1 _ _ rfl | exact hW.2.2.1 _ _ _ rfl)) (by omega) (by omega) ?_
    rw [show ((a : Int) * 5 + b).toNat = a * 5 + b by omega, hq]
    exact q_aret K hQ rfl dX5_patchOf_75 hce hsl (⟨hC, hfr, q, rfl, hC.2.2.2.1 _ q (by omega) hq, hK⟩)
  have j28 : ∀ (T1 L1 : Nat → Nat) (P1 : Nat → Nat → Option Nat) (J : Nat → Nat → Int) (n1 ce sl q : Nat), CI T1 L1 P1 J n1 → (∀ k, k < 84 → J k = I k) → P1 8 (a * 5 + b) = some q → ce ≤ 5 → sl ≤ 486 → RR X Y Q ce sl 28 [some (.inr (some 6)), some (.inl (a : Int)), some (.inl (b : Int)), some (.inl ((a : Int) * 5 + b))] [] T1 L1 P1 J n1 := by
    intro T1 L1 P1 J n1 ce sl q hC hfr hq hce hsl
    have hW := hC.1
    have l7 : L1 7 = 5 := hW.2.1 7 5 rfl (by decide)
    have l8 : L1 8 = 25 := hW.2.1 8 25 rfl (by decide)
    have l9 : L1 9 = 25 := hW.2.1 9 25 rfl (by decide)
    have et : ((a : Int) * 5 + b).toNat = a * 5 + b := by omega
    obtain ⟨u1, u2, u3, u4, u5⟩ := hW.ver ha
    obtain ⟨w1, w2, w3, w4, w5⟩ := hW.ver hb
    obtain ⟨a1, a2, a3, ⟨b0, b1, b2, b3⟩, ⟨c0, c1, c2, c3⟩, d0, d1, d2, d3⟩ := hC.2.2.2.1 _ q (by omega) hq
    have va := hC.2.2.1 a ha
    have vb := hC.2.2.1 b hb
    have hpl := k_plan (T := T1) (L := L1) (P := P1) (I := J) (hn := n1) (m := (J (18 + 2 * a) 1).toNat) (n := (J (18 + 2 * b) 1).toNat) hW u2 u3 u4 (by omega) (by omega) (by omega) w2 w3 w4 (by omega) (by omega) (by omega) (by omega) (by omega) (by omega) (by omega) a3 b0 b1 b2 b3 c0 c1 c2 c3 d0 d1 d2 d3 (by omega) (by omega) (by omega) (by omega) (by omega) (by omega) (by omega) (by omega) (by omega) (by omega) (by omega) (fun j hj => va.2.2 j (by omega)) (fun j hj => vb.2.2 j (by omega))
    refine r_aload_n K dX5_patchOf_28 rfl ?_
    refine r_getR K dX5_patchOf_29 f_X5_23 rfl (by first | assumption | exact hW.1 _ _ rfl | exact hW.2.2.1 _ _ _ rfl) (by first | assumption | exact hW.1 _ _ rfl | exact hW.2.2.1 _ _ _ rfl) ?_
    refine r_iload_n K dX5_patchOf_32 rfl ?_
    refine r_zald K dX5_patchOf_33 (by first | assumption | exact hW.1 _ _ rfl | exact hW.2.2.1 _ _ _ rfl) (by omega) (by omega) ?_
    rw [et]
    refine r_if_ne K 69 dX5_patchOf_34 (by decide) (fun c34 => ?_) (fun c34 => ?_)
    · have h91 : J 9 (a * 5 + b) = 1 := by
        rcases hC.2.2.2.2.2.1 (a * 5 + b) (by omega) with h | h
        · exact absurd h c34
        · exact h
      obtain ⟨q', hq', hK⟩ := hC.2.2.2.2.2.2 a b ha hb h91
      have hqq : q' = q := by rw [hq] at hq'; cases hq'; rfl
      rw [hqq] at hK
      first
        | exact j69 _ _ _ _ _ _ _ q hC (fun k h1 _ => hfr k h1) hq hK hce hsl
        | (have hK : PKv J1 a b q := by
             unfold PKv
             rw [hJ1.1 (19 + 2 * a) (by omega), hJ1.1 (19 + 2 * b) (by omega), hJ1.1 (18 + 2 * a) (by omega), hJ1.1 (18 + 2 * b) (by omega)]
             exact hJ1.2
           rw [et]
           have hC2 := CI.plan hC ha hb hq hJ1.1 hK
           exact j69 _ _ _ _ _ _ _ q hC2 (fun k h1 h2 => by rw [mI_ne (by omega), hJ1.1 k (by omega)]; exact hfr k h1) hq (hK.cong ha hb (fun k h1 h2 => mI_ne (by omega)) (fun k h1 h2 => mI_ne (by omega))) hce hsl)
    · refine r_aload_n K dX5_patchOf_37 rfl ?_
      refine r_getR K dX5_patchOf_38 f_X5_30 rfl (by first | assumption | exact hW.1 _ _ rfl | exact hW.2.2.1 _ _ _ rfl) (by first | assumption | exact hW.1 _ _ rfl | exact hW.2.2.1 _ _ _ rfl) ?_
      refine r_aload_n K dX5_patchOf_41 rfl ?_
      refine r_getR K dX5_patchOf_42 f_X5_11 rfl (by first | assumption | exact hW.1 _ _ rfl | exact hW.2.2.1 _ _ _ rfl) (by first | assumption | exact hW.1 _ _ rfl | exact hW.2.2.1 _ _ _ rfl) ?_
      refine r_iload_n K dX5_patchOf_45 rfl ?_
      refine r_aald K dX5_patchOf_46 (by first | exact Or.inl (by first | assumption | exact hW.1 _ _ rfl | exact hW.2.2.1 _ _ _ rfl) | exact Or.inr (by first | assumption | exact hW.1 _ _ rfl | exact hW.2.2.1 _ _ _ rfl)) (by omega) (by omega) ?_
      rw [Int.toNat_natCast, u1]
      refine r_aload_n K dX5_patchOf_47 rfl ?_
      refine r_getR K dX5_patchOf_48 f_X5_11 rfl (by first | assumption | exact hW.1 _ _ rfl | exact hW.2.2.1 _ _ _ rfl) (by first | assumption | exact hW.1 _ _ rfl | exact hW.2.2.1 _ _ _ rfl) ?_
      refine r_iload_n K dX5_patchOf_51 rfl ?_
      refine r_aald K dX5_patchOf_52 (by first | exact Or.inl (by first | assumption | exact hW.1 _ _ rfl | exact hW.2.2.1 _ _ _ rfl) | exact Or.inr (by first | assumption | exact hW.1 _ _ rfl | exact hW.2.2.1 _ _ _ rfl)) (by omega) (by omega) ?_
      rw [Int.toNat_natCast, w1]
      refine r_aload_n K dX5_patchOf_53 rfl ?_
      refine r_getR K dX5_patchOf_54 f_X5_19 rfl (by first | assumption | exact hW.1 _ _ rfl | exact hW.2.2.1 _ _ _ rfl) (by first | assumption | exact hW.1 _ _ rfl | exact hW.2.2.1 _ _ _ rfl) ?_
      refine r_iload_n K dX5_patchOf_57 rfl ?_
      refine r_aald K dX5_patchOf_58 (by first | exact Or.inl (by first | assumption | exact hW.1 _ _ rfl | exact hW.2.2.1 _ _ _ rfl) | exact Or.inr (by first | assumption | exact hW.1 _ _ rfl | exact hW.2.2.1 _ _ _ rfl)) (by omega) (by omega) ?_
      rw [et, hq]
      refine rcV3i K dX5_patchOf_59 c_X5_50 v_X4_plan (by first | assumption | exact hW.1 _ _ rfl | exact hW.2.2.1 _ _ _ rfl) hpl ⟨by decide, by decide, hce, hsl⟩ (Nat.le_of_ble_eq_true rfl) ?_
      rintro _ J1 ⟨rfl, hJ1⟩
      refine r_aload_n K dX5_patchOf_62 rfl ?_
      refine r_getR K dX5_patchOf_63 f_X5_23 rfl (by first | assumption | exact hW.1 _ _ rfl | exact hW.2.2.1 _ _ _ rfl) (by first | assumption | exact hW.1 _ _ rfl | exact hW.2.2.1 _ _ _ rfl) ?_
      refine r_iload_n K dX5_patchOf_66 rfl ?_
      refine r_iconst K dX5_patchOf_67 ?_
      refine r_zast K dX5_patchOf_68 (by first | assumption | exact hW.1 _ _ rfl | exact hW.2.2.1 _ _ _ rfl) (by omega) (by omega) (by first | exact Or.inl rfl | exact Or.inr rfl) ?_
      first
        | exact j69 _ _ _ _ _ _ _ q hC (fun k h1 _ => hfr k h1) hq hK hce hsl
        | (have hK : PKv J1 a b q := by
             unfold PKv
             rw [hJ1.1 (19 + 2 * a) (by omega), hJ1.1 (19 + 2 * b) (by omega), hJ1.1 (18 + 2 * a) (by omega), hJ1.1 (18 + 2 * b) (by omega)]
             exact hJ1.2
           rw [et]
           have hC2 := CI.plan hC ha hb hq hJ1.1 hK
           exact j69 _ _ _ _ _ _ _ q hC2 (fun k h1 h2 => by rw [mI_ne (by omega), hJ1.1 k (by omega)]; exact hfr k h1) hq (hK.cong ha hb (fun k h1 h2 => mI_ne (by omega)) (fun k h1 h2 => mI_ne (by omega))) hce hsl)
  have hW := hC.1
  have l8 : L 8 = 25 := hW.2.1 8 25 rfl (by decide)
  have et : ((a : Int) * 5 + b).toNat = a * 5 + b := by omega
  refine r_iload_n K dX5_patchOf_0 rfl ?_
  refine r_iconst K dX5_patchOf_1 ?_
  refine r_imul K dX5_patchOf_2 ?_
  refine r_iload_n K dX5_patchOf_3 rfl ?_
  refine r_iadd K dX5_patchOf_4 ?_
  refine r_istore_n K dX5_patchOf_5 (by decide) ?_
  refine r_aload_n K dX5_patchOf_6 rfl ?_
  refine r_getR K dX5_patchOf_7 f_X5_19 rfl (by first | assumption | exact hW.1 _ _ rfl | exact hW.2.2.1 _ _ _ rfl) (by first | assumption | exact hW.1 _ _ rfl | exact hW.2.2.1 _ _ _ rfl) ?_
  refine r_iload_n K dX5_patchOf_10 rfl ?_
  refine r_aald K dX5_patchOf_11 (by first | exact Or.inl (by first | assumption | exact hW.1 _ _ rfl | exact hW.2.2.1 _ _ _ rfl) | exact Or.inr (by first | assumption | exact hW.1 _ _ rfl | exact hW.2.2.1 _ _ _ rfl)) (by omega) (by omega) ?_
  rw [et]
  refine r_ifnonnull K 28 dX5_patchOf_12 (by decide) (fun q12 c12 => ?_) (fun c12 => ?_)
  · exact j28 _ _ _ _ _ _ _ q12 hC (fun _ _ => rfl) c12 (by omega) (by omega)
  · refine r_aload_n K dX5_patchOf_15 rfl ?_
    refine r_getR K dX5_patchOf_16 f_X5_19 rfl (by first | assumption | exact hW.1 _ _ rfl | exact hW.2.2.1 _ _ _ rfl) (by first | assumption | exact hW.1 _ _ rfl | exact hW.2.2.1 _ _ _ rfl) ?_
    refine r_iload_n K dX5_patchOf_19 rfl ?_
    refine r_new K dX5_patchOf_20 (by decide) n_X5_17 (Nat.le_of_ble_eq_true rfl) (Nat.le_of_ble_eq_true rfl) ?_
    refine r_dup K dX5_patchOf_23 ?_
    refine rcI0g K dX5_patchOf_24 c_X5_49 i_X3_init (k_X3_init (by simp [va_up]) (by omega)) (by decide) (Nat.le_of_ble_eq_true rfl) ?_
    rintro _ T1 L1 P1 I1 n1 ⟨rfl, hM⟩
    have hnw := nwP hM
    have hC2 := CI.new hC hM (t := a * 5 + b) (by omega) c12
    have hW1 := hC2.1
    have l81 : L1 8 = 25 := hW1.2.1 8 25 rfl (by decide)
    refine r_aast K dX5_patchOf_27 (Or.inr ⟨hW1.1 _ _ rfl, hnw.2.2.1⟩) (by omega) (by omega) ?_
    rw [et]
    exact j28 _ _ _ _ _ _ _ (3 + hn) hC2 (fun k hk => (hnw.2.1 k (by have := hC.2.1; omega)).2.2.2) (by rw [mP_row, if_pos rfl]) (by decide) (by decide)
end PAO
end
section
def cn (f : Nat → Bool) : Nat → Int
  | 0 => 0
  | n + 1 => cn f n + if f n then 1 else 0
theorem cn_in (f : Nat → Bool) : ∀ n, 0 ≤ cn f n ∧ cn f n ≤ n
  | 0 => ⟨by simp [cn], by simp [cn]⟩
  | n + 1 => by
    have := cn_in f n
    simp only [cn]
    split <;> omega
theorem cn_cong {f g : Nat → Bool} : ∀ {n : Nat}, (∀ k, k < n → f k = g k) → cn f n = cn g n
  | 0, _ => rfl
  | n + 1, h => by rw [cn, cn, cn_cong (fun k hk => h k (by omega)), h n (by omega)]
theorem cn_false : ∀ n, cn (fun _ => false) n = 0
  | 0 => rfl
  | n + 1 => by rw [cn, cn_false n]; rfl
theorem cn_up {f g : Nat → Bool} {p : Nat} (h1 : f p = false) (h2 : g p = true) (h : ∀ k, k ≠ p → g k = f k) : ∀ {n : Nat}, p < n → cn g n = cn f n + 1
  | 0, hp => absurd hp (by omega)
  | n + 1, hp => by
    rw [cn, cn]
    by_cases e : n = p
    · subst e
      rw [h1, h2, cn_cong (f := g) (g := f) (fun k hk => h k (by omega))]; simp
    · rw [cn_up h1 h2 h (by omega), h n e]; omega
def latB (p q w b : Int) : Bool := if p = q then decide (b ≠ 0) else if w = 0 then decide (p < q) else decide (q < p)
/-- must old byte p be kept, for the first n new bytes -/
def kpt (s b : Nat → Int) (w : Int) : Nat → Nat → Bool
  | 0, _ => false
  | n + 1, p => kpt s b w n p || (decide (s n = (p : Int)) && latB (s n) n w (b n))
theorem kpt_cong {s b s' b' : Nat → Int} {w : Int} : ∀ {n p : Nat}, (∀ q, q < n → s q = s' q ∧ (0 ≤ s q → b q = b' q)) → kpt s b w n p = kpt s' b' w n p
  | 0, _, _ => rfl
  | n + 1, p, h => by
    rw [kpt, kpt, kpt_cong (fun q hq => h q (by omega))]
    obtain ⟨e1, e2⟩ := h n (by omega)
    by_cases e : s n = (p : Int)
    · rw [← e1, e2 (by omega)]
    · rw [← e1, decide_eq_false e]; simp
section TRA
variable {T L : Nat → Nat} {P : Nat → Nat → Option Nat} {I : Nat → Nat → Int} {hn t tp tb tk n : Nat}

set_option maxHeartbeats 4000000 in
set_option maxRecDepth 100000 in
theorem k_comesTooLate {p w : Int} {q : Nat} (ht : T t = 6) (q0 : P t 0 = some tp) (q1 : P t 1 = some tb) (q2 : P t 2 = some tk) (s0 : T tp = 10) (s1 : T tb = 10) (s2 : T tk = 12) (m0 : L tp = 120) (m1 : L tb = 120) (m2 : L tk = 120) (hq : q < 120) : pX6_comesTooLate [.inr (some t), .inl p, .inl (q : Int), .inl w] T L P I hn (.inl (if latB p q w (I tb q) = true then 1 else 0)) := by
  refine CT.by (by decide) (Nat.le_of_ble_eq_true rfl) fun X Y Q hQ K hv => ?_
  refine r_iload_n K dX6_comesTooLate_0 rfl ?_
  refine r_iload_n K dX6_comesTooLate_1 rfl ?_
  refine r_icmp_ne K 20 dX6_comesTooLate_2 (by decide) (fun c2 => ?_) (fun c2 => ?_)
  · refine r_iload_n K dX6_comesTooLate_20 rfl ?_
    refine r_if_ne K 37 dX6_comesTooLate_21 (by decide) (fun c21 => ?_) (fun c21 => ?_)
    · refine r_iload_n K dX6_comesTooLate_37 rfl ?_
      refine r_iload_n K dX6_comesTooLate_38 rfl ?_
      refine r_icmp_ge K 46 dX6_comesTooLate_39 (by decide) (fun c39 => ?_) (fun c39 => ?_)
      · refine r_iconst K dX6_comesTooLate_46 ?_
        exact q_zret K hQ rfl dX6_comesTooLate_47 (by first | exact Or.inl rfl | exact Or.inr rfl) (Nat.le_refl _) (Nat.le_refl _) (⟨by first | rw [if_pos (by simp only [latB]; rw [if_neg (by omega)]; first | (rw [if_pos (by omega)]; exact decide_eq_true (by omega)) | (rw [if_neg (by omega)]; exact decide_eq_true (by omega)))] | rw [if_neg (by simp only [latB]; rw [if_neg (by omega)]; first | (rw [if_pos (by omega)]; simp; omega) | (rw [if_neg (by omega)]; simp; omega))], rfl, rfl, rfl, rfl, rfl⟩)
      · refine r_iconst K dX6_comesTooLate_42 ?_
        refine r_goto K 47 dX6_comesTooLate_43 (by decide) ?_
        exact q_zret K hQ rfl dX6_comesTooLate_47 (by first | exact Or.inl rfl | exact Or.inr rfl) (Nat.le_refl _) (Nat.le_refl _) (⟨by first | rw [if_pos (by simp only [latB]; rw [if_neg (by omega)]; first | (rw [if_pos (by omega)]; exact decide_eq_true (by omega)) | (rw [if_neg (by omega)]; exact decide_eq_true (by omega)))] | rw [if_neg (by simp only [latB]; rw [if_neg (by omega)]; first | (rw [if_pos (by omega)]; simp; omega) | (rw [if_neg (by omega)]; simp; omega))], rfl, rfl, rfl, rfl, rfl⟩)
    · refine r_iload_n K dX6_comesTooLate_24 rfl ?_
      refine r_iload_n K dX6_comesTooLate_25 rfl ?_
      refine r_icmp_le K 33 dX6_comesTooLate_26 (by decide) (fun c26 => ?_) (fun c26 => ?_)
      · refine r_iconst K dX6_comesTooLate_33 ?_
        refine r_goto K 47 dX6_comesTooLate_34 (by decide) ?_
        exact q_zret K hQ rfl dX6_comesTooLate_47 (by first | exact Or.inl rfl | exact Or.inr rfl) (Nat.le_refl _) (Nat.le_refl _) (⟨by first | rw [if_pos (by simp only [latB]; rw [if_neg (by omega)]; first | (rw [if_pos (by omega)]; exact decide_eq_true (by omega)) | (rw [if_neg (by omega)]; exact decide_eq_true (by omega)))] | rw [if_neg (by simp only [latB]; rw [if_neg (by omega)]; first | (rw [if_pos (by omega)]; simp; omega) | (rw [if_neg (by omega)]; simp; omega))], rfl, rfl, rfl, rfl, rfl⟩)
      · refine r_iconst K dX6_comesTooLate_29 ?_
        refine r_goto K 47 dX6_comesTooLate_30 (by decide) ?_
        exact q_zret K hQ rfl dX6_comesTooLate_47 (by first | exact Or.inl rfl | exact Or.inr rfl) (Nat.le_refl _) (Nat.le_refl _) (⟨by first | rw [if_pos (by simp only [latB]; rw [if_neg (by omega)]; first | (rw [if_pos (by omega)]; exact decide_eq_true (by omega)) | (rw [if_neg (by omega)]; exact decide_eq_true (by omega)))] | rw [if_neg (by simp only [latB]; rw [if_neg (by omega)]; first | (rw [if_pos (by omega)]; simp; omega) | (rw [if_neg (by omega)]; simp; omega))], rfl, rfl, rfl, rfl, rfl⟩)
  · refine r_aload_n K dX6_comesTooLate_5 rfl ?_
    refine r_getR K dX6_comesTooLate_6 f_X6_15 rfl (by assumption) (by assumption) ?_
    refine r_iload_n K dX6_comesTooLate_9 rfl ?_
    refine r_iald K dX6_comesTooLate_10 (by assumption) (by omega) (by omega) ?_
    simp only [Int.toNat_natCast]
    refine r_if_eq K 18 dX6_comesTooLate_11 (by decide) (fun c11 => ?_) (fun c11 => ?_)
    · refine r_iconst K dX6_comesTooLate_18 ?_
      exact q_zret K hQ rfl dX6_comesTooLate_19 (by first | exact Or.inl rfl | exact Or.inr rfl) (Nat.le_refl _) (Nat.le_refl _) (⟨by first | rw [if_pos (by simp only [latB]; rw [if_pos (by omega)]; exact decide_eq_true (by omega))] | rw [if_neg (by simp only [latB]; rw [if_pos (by omega)]; simp; omega)], rfl, rfl, rfl, rfl, rfl⟩)
    · refine r_iconst K dX6_comesTooLate_14 ?_
      refine r_goto K 19 dX6_comesTooLate_15 (by decide) ?_
      exact q_zret K hQ rfl dX6_comesTooLate_19 (by first | exact Or.inl rfl | exact Or.inr rfl) (Nat.le_refl _) (Nat.le_refl _) (⟨by first | rw [if_pos (by simp only [latB]; rw [if_pos (by omega)]; exact decide_eq_true (by omega))] | rw [if_neg (by simp only [latB]; rw [if_pos (by omega)]; simp; omega)], rfl, rfl, rfl, rfl, rfl⟩)
set_option maxHeartbeats 4000000 in
set_option maxRecDepth 100000 in
theorem k_isKept {p : Int} (ht : T t = 6) (q0 : P t 0 = some tp) (q1 : P t 1 = some tb) (q2 : P t 2 = some tk) (s0 : T tp = 10) (s1 : T tb = 10) (s2 : T tk = 12) (m0 : L tp = 120) (m1 : L tb = 120) (m2 : L tk = 120) : pX6_isKept [.inr (some t), .inl p] T L P I hn (.inl (if 0 ≤ p ∧ p < 120 ∧ I tk p.toNat ≠ 0 then 1 else 0)) := by
  refine CT.by (by decide) (Nat.le_of_ble_eq_true rfl) fun X Y Q hQ K hv => ?_
  refine r_iload_n K dX6_isKept_0 rfl ?_
  refine r_if_lt K 23 dX6_isKept_1 (by decide) (fun c1 => ?_) (fun c1 => ?_)
  · refine r_iconst K dX6_isKept_23 ?_
    exact q_zret K hQ rfl dX6_isKept_24 (by first | exact Or.inl rfl | exact Or.inr rfl) (Nat.le_refl _) (Nat.le_refl _) (⟨by first | rw [if_pos (by omega)] | rw [if_neg (by omega)], rfl, rfl, rfl, rfl, rfl⟩)
  · refine r_iload_n K dX6_isKept_4 rfl ?_
    refine r_bipush K dX6_isKept_5 ?_
    refine r_icmp_ge K 23 dX6_isKept_7 (by decide) (fun c7 => ?_) (fun c7 => ?_)
    · refine r_iconst K dX6_isKept_23 ?_
      exact q_zret K hQ rfl dX6_isKept_24 (by first | exact Or.inl rfl | exact Or.inr rfl) (Nat.le_refl _) (Nat.le_refl _) (⟨by first | rw [if_pos (by omega)] | rw [if_neg (by omega)], rfl, rfl, rfl, rfl, rfl⟩)
    · refine r_aload_n K dX6_isKept_10 rfl ?_
      refine r_getR K dX6_isKept_11 f_X6_18 rfl (by assumption) (by assumption) ?_
      refine r_iload_n K dX6_isKept_14 rfl ?_
      refine r_zald K dX6_isKept_15 (by assumption) (by omega) (by omega) ?_
      refine r_if_eq K 23 dX6_isKept_16 (by decide) (fun c16 => ?_) (fun c16 => ?_)
      · refine r_iconst K dX6_isKept_23 ?_
        exact q_zret K hQ rfl dX6_isKept_24 (by first | exact Or.inl rfl | exact Or.inr rfl) (Nat.le_refl _) (Nat.le_refl _) (⟨by first | rw [if_pos (by omega)] | rw [if_neg (by omega)], rfl, rfl, rfl, rfl, rfl⟩)
      · refine r_iconst K dX6_isKept_19 ?_
        refine r_goto K 24 dX6_isKept_20 (by decide) ?_
        exact q_zret K hQ rfl dX6_isKept_24 (by first | exact Or.inl rfl | exact Or.inr rfl) (Nat.le_refl _) (Nat.le_refl _) (⟨by first | rw [if_pos (by omega)] | rw [if_neg (by omega)], rfl, rfl, rfl, rfl, rfl⟩)
set_option maxHeartbeats 4000000 in
set_option maxRecDepth 100000 in
theorem k_countKept {w : Int} (ht : T t = 6) (q0 : P t 0 = some tp) (q1 : P t 1 = some tb) (q2 : P t 2 = some tk) (s0 : T tp = 10) (s1 : T tb = 10) (s2 : T tk = 12) (m0 : L tp = 120) (m1 : L tb = 120) (m2 : L tk = 120) (hc : I t 3 = n) (hn1 : n ≤ 120) (hw : w = 0 ∨ w = 1) (n1 : tp ≠ tk) (n2 : tb ≠ tk) : iX6_countKept [.inr (some t), .inl w] T L P I hn (fun r J => r = some (.inl (cn (kpt (I tp) (I tb) w n) 120)) ∧ (∀ c, c ≠ tk → J c = I c) ∧ ∀ p, p < 120 → J tk p = if kpt (I tp) (I tb) w n p = true then 1 else 0) := by
  refine CT.by (by decide) (Nat.le_of_ble_eq_true rfl) fun X Y Q hQ K hv => ?_
  have n0 : t ≠ tk := fun e => by rw [e] at ht; omega
  have loop2 : ∀ (d q : Nat) (z mn : Int) (g4 : Option PV) (J : Nat → Nat → Int), z = q → n - q = d → q ≤ n → mn = cn (kpt (I tp) (I tb) w q) 120 → (∀ c, c ≠ tk → J c = I c) → (∀ p, p < 120 → J tk p = if kpt (I tp) (I tb) w q p = true then 1 else 0) → RR X Y Q 0 0 25 [some (.inr (some t)), some (.inl w), some (.inl mn), some (.inl z), g4] [] T L P J hn := by
    intro d
    induction d using Nat.strongRecOn with
    | ind d ih =>
      intro q z mn g4 J hz hd hq hmn hfr hrow
      subst hz
      have hcn := cn_in (kpt (I tp) (I tb) w q) 120
      have jt : J t = I t := hfr t n0
      have jp : J tp = I tp := hfr tp n1
      have jb : J tb = I tb := hfr tb n2
      -- nothing new is kept
      have same : ∀ g4, q < n → (∀ p : Nat, p < 120 → (decide (I tp q = (p : Int)) && latB (I tp q) q w (I tb q)) = true → kpt (I tp) (I tb) w q p = true) → RR X Y Q 0 0 85 [some (.inr (some t)), some (.inl w), some (.inl mn), some (.inl (q : Int)), g4] [] T L P J hn := by
        intro g4 hqn hno
        have ek : ∀ p, p < 120 → kpt (I tp) (I tb) w (q + 1) p = kpt (I tp) (I tb) w q p := fun p hp => by
          rw [kpt]
          cases hk : kpt (I tp) (I tb) w q p with
          | true => rfl
          | false =>
            cases hd : (decide (I tp q = (p : Int)) && latB (I tp q) q w (I tb q)) with
            | true => rw [hno p hp hd] at hk; cases hk
            | false => rfl
        refine r_iinc K dX6_countKept_85 (by decide) rfl ?_
        refine r_goto K 25 dX6_countKept_88 (by decide) ?_
        exact ih _ (by omega) (q + 1) _ _ _ J (by omega) rfl (by omega) (by rw [hmn]; exact cn_cong (fun k hk => (ek k hk).symm)) hfr (fun p hp => by rw [ek p hp]; exact hrow p hp)

      refine r_iload_n K dX6_countKept_25 rfl ?_
      refine r_aload_n K dX6_countKept_26 rfl ?_
      refine r_getI K dX6_countKept_27 f_X6_22 rfl (by assumption) ?_
      rw [jt, hc]
      refine r_icmp_ge K 91 dX6_countKept_30 (by decide) (fun c30 => ?_) (fun c30 => ?_)
      · have hqn : q = n := by omega
        subst hqn
        refine r_iload_n K dX6_countKept_91 rfl ?_
        exact q_iret K hQ rfl dX6_countKept_92 (Nat.le_refl _) (Nat.le_refl _) (⟨rfl, rfl, rfl, rfl, by rw [hmn], hfr, hrow⟩)
      · have hqn : q < n := by omega
        refine r_aload_n K dX6_countKept_33 rfl ?_
        refine r_getR K dX6_countKept_34 f_X6_9 rfl (by assumption) (by assumption) ?_
        refine r_iload_n K dX6_countKept_37 rfl ?_
        refine r_iald K dX6_countKept_38 (by assumption) (by omega) (by omega) ?_
        rw [Int.toNat_natCast, jp]
        refine r_istore K dX6_countKept_39 (by decide) ?_
        refine r_iload K dX6_countKept_41 rfl ?_
        refine r_if_lt K 85 dX6_countKept_43 (by decide) (fun c43 => ?_) (fun c43 => ?_)
        · exact same _ hqn (fun p hp hh => by simp at hh; omega)
        · refine r_iload K dX6_countKept_46 rfl ?_
          refine r_bipush K dX6_countKept_48 ?_
          refine r_icmp_ge K 85 dX6_countKept_50 (by decide) (fun c50 => ?_) (fun c50 => ?_)
          · exact same _ hqn (fun p hp hh => by simp at hh; omega)
          · have hrw := hrow (I tp q).toNat (by omega)
            refine r_aload_n K dX6_countKept_53 rfl ?_
            refine r_getR K dX6_countKept_54 f_X6_18 rfl (by assumption) (by assumption) ?_
            refine r_iload K dX6_countKept_57 rfl ?_
            refine r_zald K dX6_countKept_59 (by assumption) (by omega) (by omega) ?_
            rw [hrw]
            refine r_if_ne K 85 dX6_countKept_60 (by decide) (fun c60 => ?_) (fun c60 => ?_)
            · exact same _ hqn (fun p hp hh => by
                have hpe : (I tp q).toNat = p := by simp at hh; omega
                rw [← hpe]
                by_cases hk : kpt (I tp) (I tb) w q (I tp q).toNat = true
                · exact hk
                · rw [if_neg hk] at c60; exact absurd rfl c60)
            · have hkf : kpt (I tp) (I tb) w q (I tp q).toNat = false := by
                cases hk : kpt (I tp) (I tb) w q (I tp q).toNat with
                | false => rfl
                | true => rw [hk] at c60; exact absurd c60 (by decide)
              refine r_aload_n K dX6_countKept_63 rfl ?_
              refine r_iload K dX6_countKept_64 rfl ?_
              refine r_iload_n K dX6_countKept_66 rfl ?_
              refine r_iload_n K dX6_countKept_67 rfl ?_
              refine rcV3p K dX6_countKept_68 c_X6_66 v_X6_comesTooLate (by assumption) (k_comesTooLate (T := T) (L := L) (P := P) (I := J) (hn := hn) (p := I tp q) (w := w) (q := q) ht q0 q1 q2 s0 s1 s2 m0 m1 m2 (by omega)) (by decide) (Nat.le_of_ble_eq_true rfl) ?_
              rw [jb]
              refine r_if_eq K 85 dX6_countKept_71 (by decide) (fun c71 => ?_) (fun c71 => ?_)
              · exact same _ hqn (fun p hp hh => by
                  simp only [Bool.and_eq_true] at hh
                  rw [if_pos hh.2] at c71; exact absurd c71 (by decide))
              · have hlt : latB (I tp q) q w (I tb q) = true := by
                  cases hk : latB (I tp q) q w (I tb q) with
                  | true => rfl
                  | false => rw [hk] at c71; exact absurd rfl c71
                have ek1 : kpt (I tp) (I tb) w (q + 1) (I tp q).toNat = true := by
                  rw [kpt, hkf, hlt, decide_eq_true (by omega)]; rfl
                have ek2 : ∀ k, k ≠ (I tp q).toNat → kpt (I tp) (I tb) w (q + 1) k = kpt (I tp) (I tb) w q k := fun k hk => by
                  rw [kpt, decide_eq_false (by omega)]; simp
                refine r_aload_n K dX6_countKept_74 rfl ?_
                refine r_getR K dX6_countKept_75 f_X6_18 rfl (by assumption) (by assumption) ?_
                refine r_iload K dX6_countKept_78 rfl ?_
                refine r_iconst K dX6_countKept_80 ?_
                refine r_zast K dX6_countKept_81 (by assumption) (by omega) (by omega) (by first | exact Or.inl rfl | exact Or.inr rfl) ?_
                refine r_iinc K dX6_countKept_82 (by decide) rfl ?_
                refine r_iinc K dX6_countKept_85 (by decide) rfl ?_
                refine r_goto K 25 dX6_countKept_88 (by decide) ?_
                refine ih _ (by omega) (q + 1) _ _ _ _ (by omega) rfl (by omega) (by rw [hmn]; exact (cn_up hkf ek1 ek2 (by omega)).symm) (fun c hc => by rw [mI_ne hc]; exact hfr c hc) (fun p hp => ?_)
                rw [mI_row]
                by_cases e : p = (I tp q).toNat
                · rw [if_pos e, e, if_pos ek1]
                · rw [if_neg e, ek2 p e]; exact hrow p hp
  have loop1 : ∀ (d i : Nat) (z : Int) (g3 g4 : Option PV) (J : Nat → Nat → Int), z = i → 120 - i = d → i ≤ 120 → (∀ c, c ≠ tk → J c = I c) → (∀ p, p < i → J tk p = 0) → RR X Y Q 0 0 2 [some (.inr (some t)), some (.inl w), some (.inl z), g3, g4] [] T L P J hn := by
    intro d
    induction d using Nat.strongRecOn with
    | ind d ih =>
      intro i z g3 g4 J hz hd hi hfr hrow
      subst hz
      refine r_iload_n K dX6_countKept_2 rfl ?_
      refine r_bipush K dX6_countKept_3 ?_
      refine r_icmp_ge K 21 dX6_countKept_5 (by decide) (fun c5 => ?_) (fun c5 => ?_)
      · refine r_iconst K dX6_countKept_21 ?_
        refine r_istore_n K dX6_countKept_22 (by decide) ?_
        refine r_iconst K dX6_countKept_23 ?_
        refine r_istore_n K dX6_countKept_24 (by decide) ?_
        exact loop2 _ 0 0 0 _ J rfl rfl (by omega) (cn_false 120).symm hfr (fun p hp => by rw [hrow p (by omega)]; rfl)
      · refine r_aload_n K dX6_countKept_8 rfl ?_
        refine r_getR K dX6_countKept_9 f_X6_18 rfl (by assumption) (by assumption) ?_
        refine r_iload_n K dX6_countKept_12 rfl ?_
        refine r_iconst K dX6_countKept_13 ?_
        refine r_zast K dX6_countKept_14 (by assumption) (by omega) (by omega) (by first | exact Or.inl rfl | exact Or.inr rfl) ?_
        refine r_iinc K dX6_countKept_15 (by decide) rfl ?_
        refine r_goto K 2 dX6_countKept_18 (by decide) ?_
        refine ih _ (by omega) (i + 1) _ _ _ _ (by omega) rfl (by omega) (fun c hc => by rw [mI_ne hc]; exact hfr c hc) (fun p hp => ?_)
        rw [mI_row, Int.toNat_natCast]
        by_cases e : p = i
        · rw [if_pos e]
        · rw [if_neg e]; exact hrow p (by omega)
  refine r_iconst K dX6_countKept_0 ?_
  refine r_istore_n K dX6_countKept_1 (by decide) ?_
  exact loop1 _ 0 0 _ _ I rfl rfl (by omega) (fun _ _ => rfl) (fun p hp => absurd hp (by omega))
end TRA
end
section
/-- the step's beginning to which new byte x belongs -/
def sgm (A B : Nat → Int) (m n : Nat) : Nat → Nat
  | 0 => 0
  | x + 1 => if x + 1 = sgm A B m n x + (ch A B m n (sgm A B m n x)).2.2.1.toNat then x + 1 else sgm A B m n x
/-- what new byte x is made of: an old byte's place, or -1; and what is added, or the byte itself -/
def srcF (A B : Nat → Int) (m n x : Nat) : Int := if (ch A B m n (sgm A B m n x)).2.1 = 2 then -1 else (ch A B m n (sgm A B m n x)).2.2.2.1 + ((x : Int) - (sgm A B m n x : Nat))
def pluF (A B : Nat → Int) (m n x : Nat) : Int := if (ch A B m n (sgm A B m n x)).2.1 = 2 then B x else (ch A B m n (sgm A B m n x)).2.2.2.2
theorem sgm_seg {A B : Nat → Int} {m n i : Nat} (h : sgm A B m n i = i) : ∀ j, j < (ch A B m n i).2.2.1.toNat → sgm A B m n (i + j) = i
  | 0, _ => h
  | j + 1, hj => by
    have ih := sgm_seg h j (by omega)
    rw [show i + (j + 1) = (i + j) + 1 by omega, sgm, ih, if_neg (by omega)]
theorem sgm_pos {A B : Nat → Int} {m n N : Nat} (hn : n ≤ 120) (hN : ∀ k, k < N → pos A B m n k < n) : ∀ k, k ≤ N → sgm A B m n (pos A B m n k) = pos A B m n k
  | 0, _ => rfl
  | k + 1, hk => by
    have ih := sgm_pos hn hN k (by omega)
    have hok := ch_ok (A := A) (B := B) (m := m) hn (hN k (by omega))
    obtain ⟨x, hx⟩ : ∃ x, (ch A B m n (pos A B m n k)).2.2.1.toNat = x + 1 := ⟨(ch A B m n (pos A B m n k)).2.2.1.toNat - 1, by omega⟩
    have hs := sgm_seg ih x (by omega)
    rw [pos, hx, show pos A B m n k + (x + 1) = (pos A B m n k + x) + 1 by omega, sgm, hs, if_pos (by omega)]
/-- every new byte lies in a step -/
theorem pos_cover {A B : Nat → Int} {m n : Nat} : ∀ {N x : Nat}, x < pos A B m n N → ∃ k j, k < N ∧ x = pos A B m n k + j ∧ j < (ch A B m n (pos A B m n k)).2.2.1.toNat
  | 0, x, h => by rw [pos] at h; omega
  | N + 1, x, h => by
    rcases Nat.lt_or_ge x (pos A B m n N) with e | e
    · obtain ⟨k, j, h1, h2, h3⟩ := pos_cover e
      exact ⟨k, j, by omega, h2, h3⟩
    · rw [pos] at h
      exact ⟨N, x - pos A B m n N, by omega, by omega, by omega⟩
/-- how a new byte's source looks -/
theorem src_in {A B : Nat → Int} {m n N x : Nat} (hn : n ≤ 120) (hN : ∀ k, k < N → pos A B m n k < n) (h1 : pos A B m n N = n) (hx : x < n) :
    srcF A B m n x = -1 ∧ pluF A B m n x = B x ∨ 0 ≤ srcF A B m n x ∧ srcF A B m n x < m ∧ 0 ≤ pluF A B m n x ∧ pluF A B m n x < 256 := by
  obtain ⟨k, j, e1, e2, e3⟩ := pos_cover (h1 ▸ hx)
  have hs := sgm_seg (sgm_pos hn hN k (by omega)) j e3
  have hok := ch_ok (A := A) (B := B) (m := m) hn (hN k e1)
  unfold srcF pluF
  rw [e2, hs]
  by_cases h2 : (ch A B m n (pos A B m n k)).2.1 = 2
  · rw [if_pos h2, if_pos h2]; exact Or.inl ⟨rfl, rfl⟩
  · rw [if_neg h2, if_neg h2]
    have := hok.2.2.2.2.2 h2
    exact Or.inr ⟨by omega, by omega, by omega, by omega⟩
section FOL
variable {T L : Nat → Nat} {P : Nat → Nat → Option Nat} {I : Nat → Nat → Int} {hn t tp tb tk n m a k0 k1 k2 k3 f fv : Nat}
/-- a trace's cells hold the making of B's n bytes out of A's m -/
def TK (A B : Nat → Int) (m n t tp tb : Nat) (J : Nat → Nat → Int) : Prop := J t 3 = n ∧ ∀ x, x < n → J tp x = srcF A B m n x ∧ J tb x = pluF A B m n x

set_option maxHeartbeats 4000000 in
set_option maxRecDepth 100000 in
theorem k_follow {A : Nat → Int} (ht : T t = 6) (q0 : P t 0 = some tp) (q1 : P t 1 = some tb) (s0 : T tp = 10) (s1 : T tb = 10) (m0 : L tp = 120) (m1 : L tb = 120) (npb : tp ≠ tb) (ha : T a = 3) (p0 : P a 0 = some k0) (p1 : P a 1 = some k1) (p2 : P a 2 = some k2) (p3 : P a 3 = some k3) (t0 : T k0 = 10) (t1 : T k1 = 10) (t2 : T k2 = 10) (t3 : T k3 = 10) (l0 : L k0 = 120) (l1 : L k1 = 120) (l2 : L k2 = 120) (l3 : L k3 = 120) (x0 : k0 ≠ tp) (x1 : k1 ≠ tp) (x2 : k2 ≠ tp) (x3 : k3 ≠ tp) (y0 : k0 ≠ tb) (y1 : k1 ≠ tb) (y2 : k2 ≠ tb) (y3 : k3 ≠ tb) (hf : T f = 0) (pf : P f 0 = some fv) (hfv : T fv = 10) (lfv : n ≤ L fv) (lfv2 : L fv ≤ 1000) (cf : I f 1 = n) (z1 : fv ≠ tp) (z2 : fv ≠ tb) (hn1 : n ≤ 120) (hm : m ≤ 120) (hK : PK A (I fv) m n a k0 k1 k2 k3 I) :
    iX6_follow [.inr (some t), .inr (some a), .inr (some f)] T L P I hn (fun r J => r = none ∧ TK A (I fv) m n t tp tb J ∧ (∀ c, c ≠ t → c ≠ tp → c ≠ tb → J c = I c) ∧ ∀ j, j ≠ 3 → J t j = I t j) := by
  refine CT.by (by decide) (Nat.le_of_ble_eq_true rfl) fun X Y Q hQ K hv => ?_
  obtain ⟨N, hN1, hN2, hN3, hN4, hN5⟩ := hK
  have na : a ≠ t := fun e => by rw [e] at ha; omega
  have nap : a ≠ tp := fun e => by rw [e] at ha; omega
  have nab : a ≠ tb := fun e => by rw [e] at ha; omega
  have nf : f ≠ t := fun e => by rw [e] at hf; omega
  have nfp : f ≠ tp := fun e => by rw [e] at hf; omega
  have nfb : f ≠ tb := fun e => by rw [e] at hf; omega
  have n0 : k0 ≠ t := fun e => by rw [e] at t0; omega
  have n1 : k1 ≠ t := fun e => by rw [e] at t1; omega
  have n2 : k2 ≠ t := fun e => by rw [e] at t2; omega
  have n3 : k3 ≠ t := fun e => by rw [e] at t3; omega
  have nv : fv ≠ t := fun e => by rw [e] at hfv; omega
  have ntp : t ≠ tp := fun e => by rw [e] at ht; omega
  have ntb : t ≠ tb := fun e => by rw [e] at ht; omega
  have hNk : ∀ k, k ≤ N → k ≤ pos A (I fv) m n k := by
    intro k
    induction k with
    | zero => intro _; omega
    | succ k ih =>
      intro hk
      have := ih (by omega)
      have hok := ch_ok (A := A) (B := I fv) (m := m) hn1 (hN2 k (by omega))
      rw [pos]; omega
  have hN120 : N ≤ 120 := by have := hNk N (Nat.le_refl _); omega
  -- the steps, one after the other
  have loop : ∀ (d k : Nat) (z : Int) (g4 g5 : Option PV) (J : Nat → Nat → Int), z = k → N - k = d → k ≤ N → J t 3 = pos A (I fv) m n k → (∀ x, x < pos A (I fv) m n k → J tp x = srcF A (I fv) m n x ∧ J tb x = pluF A (I fv) m n x) → (∀ c, c ≠ t → c ≠ tp → c ≠ tb → J c = I c) → (∀ j, j ≠ 3 → J t j = I t j) → RR X Y Q 0 0 7 [some (.inr (some t)), some (.inr (some a)), some (.inr (some f)), some (.inl z), g4, g5] [] T L P J hn := by
    intro d
    induction d using Nat.strongRecOn with
    | ind d ih =>
      intro k z g4 g5 J hz hd hk hcnt harr hfr hft
      subst hz
      have ja : J a = I a := hfr a na nap nab
      refine r_iload_n K dX6_follow_7 rfl ?_
      refine r_aload_n K dX6_follow_8 rfl ?_
      refine r_getI K dX6_follow_9 f_X6_26 rfl (by assumption) ?_
      rw [ja, hN3]
      refine r_icmp_ge K 135 dX6_follow_12 (by decide) (fun c12 => ?_) (fun c12 => ?_)
      · exact q_vret K hQ rfl dX6_follow_135 (Nat.le_refl _) (Nat.le_refl _) (by
          have hkN : k = N := by omega
          subst hkN
          rw [hN1] at hcnt harr
          exact ⟨rfl, rfl, rfl, rfl, rfl, ⟨hcnt, harr⟩, hfr, hft⟩)
      · have hkN : k < N := by omega
        have hpn := hN2 k hkN
        have hok := ch_ok (A := A) (B := I fv) (m := m) hn1 hpn
        have hcc := hN5 k hkN
        simp only [Prod.ext_iff] at hcc
        obtain ⟨w0, w1, w2, w3⟩ := hcc
        have hsg := sgm_pos hn1 hN2 k (by omega)
        -- one step's bytes
        have inner : ∀ (d j : Nat) (z ad : Int) (J : Nat → Nat → Int), z = j → (ch A (I fv) m n (pos A (I fv) m n k)).2.2.1.toNat - j = d → j ≤ (ch A (I fv) m n (pos A (I fv) m n k)).2.2.1.toNat → (ad = 1 ∧ (ch A (I fv) m n (pos A (I fv) m n k)).2.1 = 2 ∨ ad = 0 ∧ (ch A (I fv) m n (pos A (I fv) m n k)).2.1 ≠ 2) → J t 3 = (pos A (I fv) m n k : Int) + j → (∀ x, x < pos A (I fv) m n k + j → J tp x = srcF A (I fv) m n x ∧ J tb x = pluF A (I fv) m n x) → (∀ c, c ≠ t → c ≠ tp → c ≠ tb → J c = I c) → (∀ j, j ≠ 3 → J t j = I t j) → RR X Y Q 0 0 35 [some (.inr (some t)), some (.inr (some a)), some (.inr (some f)), some (.inl (k : Int)), some (.inl ad), some (.inl z)] [] T L P J hn := by
          clear harr hcnt hfr hft ja
          intro d2
          induction d2 using Nat.strongRecOn with
          | ind d2 ih2 =>
            intro j z ad J hz hd2 hj had hcnt harr hfr hft
            subst hz
            have j0 : J k0 = I k0 := hfr k0 n0 x0 y0
            have j1 : J k1 = I k1 := hfr k1 n1 x1 y1
            have j2 : J k2 = I k2 := hfr k2 n2 x2 y2
            have j3 : J k3 = I k3 := hfr k3 n3 x3 y3
            have jf : J f = I f := hfr f nf nfp nfb
            have jv : J fv = I fv := hfr fv nv z1 z2
            have epj : ((pos A (I fv) m n k : Int) + j).toNat = pos A (I fv) m n k + j := by omega
            have j123 : ∀ (J2 : Nat → Nat → Int), j < (ch A (I fv) m n (pos A (I fv) m n k)).2.2.1.toNat → J2 = mI (mI (mI J tp (pos A (I fv) m n k + j) (srcF A (I fv) m n (pos A (I fv) m n k + j))) tb (pos A (I fv) m n k + j) (pluF A (I fv) m n (pos A (I fv) m n k + j))) t 3 ((pos A (I fv) m n k : Int) + j + 1) → RR X Y Q 0 0 123 [some (.inr (some t)), some (.inr (some a)), some (.inr (some f)), some (.inl (k : Int)), some (.inl ad), some (.inl (j : Int))] [] T L P J2 hn := by
              intro J2 hjl hJ2
              refine r_iinc K dX6_follow_123 (by decide) rfl ?_
              refine r_goto K 35 dX6_follow_126 (by decide) ?_
              refine ih2 _ (by omega) (j + 1) _ ad J2 (by omega) rfl (by omega) had (by rw [hJ2, mI_eq]; omega) (fun x hx => ?_) (fun c c1 c2 c3 => by rw [hJ2, mI_ne c1, mI_ne c3, mI_ne c2]; exact hfr c c1 c2 c3) (fun j hj => by rw [hJ2, mI_nj hj, mI_ne ntb, mI_ne ntp]; exact hft j hj)
              rw [hJ2, mI_ne (Ne.symm ntp), mI_ne (Ne.symm ntb), mI_ne npb, mI_row, mI_row, mI_ne (Ne.symm npb)]
              by_cases e : x = pos A (I fv) m n k + j
              · rw [if_pos e, if_pos e, e]; exact ⟨rfl, rfl⟩
              · rw [if_neg e, if_neg e]; exact harr x (by omega)
            have hseg := fun h => sgm_seg hsg j h
            have j81 : j < (ch A (I fv) m n (pos A (I fv) m n k)).2.2.1.toNat → RR X Y Q 0 0 81 [some (.inr (some t)), some (.inr (some a)), some (.inr (some f)), some (.inl (k : Int)), some (.inl ad), some (.inl (j : Int))] [.inl (srcF A (I fv) m n (pos A (I fv) m n k + j)), .inl ((pos A (I fv) m n k : Int) + j), .inr (some tp)] T L P J hn := by
              intro hjl
              have hsj := hseg hjl
              refine r_iast K dX6_follow_81 (by assumption) (by omega) (by omega) ?_
              rw [epj]
              refine r_aload_n K dX6_follow_82 rfl ?_
              refine r_getR K dX6_follow_83 f_X6_15 rfl (by assumption) (by assumption) ?_
              refine r_aload_n K dX6_follow_86 rfl ?_
              refine r_getI K dX6_follow_87 f_X6_22 rfl (by assumption) ?_
              rw [mI_ne ntp, hcnt]
              refine r_iload K dX6_follow_90 rfl ?_
              refine r_if_eq K 106 dX6_follow_92 (by decide) (fun c92 => ?_) (fun c92 => ?_)
              · have hk2 : (ch A (I fv) m n (pos A (I fv) m n k)).2.1 ≠ 2 := by rcases had with h | h; exact absurd h.1 (by omega); exact h.2
                have ep : (ch A (I fv) m n (pos A (I fv) m n k)).2.2.2.2 = pluF A (I fv) m n (pos A (I fv) m n k + j) := by
                  rw [pluF, hsj, if_neg hk2]
                refine r_aload_n K dX6_follow_106 rfl ?_
                refine r_getR K dX6_follow_107 f_X6_44 rfl (by assumption) (by assumption) ?_
                refine r_iload_n K dX6_follow_110 rfl ?_
                refine r_iald K dX6_follow_111 (by assumption) (by omega) (by omega) ?_
                rw [mI_ne x3, Int.toNat_natCast, j3, w3, ep]
                refine r_iast K dX6_follow_112 (by assumption) (by omega) (by omega) ?_
                rw [epj]
                refine r_aload_n K dX6_follow_113 rfl ?_
                refine r_dup K dX6_follow_114 ?_
                refine r_getI K dX6_follow_115 f_X6_22 rfl (by assumption) ?_
                rw [mI_ne ntb, mI_ne ntp, hcnt]
                refine r_iconst K dX6_follow_118 ?_
                refine r_iadd K dX6_follow_119 ?_
                refine r_putI K dX6_follow_120 f_X6_22 rfl rfl (Or.inl rfl) (by assumption) ?_
                exact j123 _ hjl rfl
              · have hk2 : (ch A (I fv) m n (pos A (I fv) m n k)).2.1 = 2 := by rcases had with h | h; exact h.2; exact absurd h.1 c92
                have ep : I fv (pos A (I fv) m n k + j) = pluF A (I fv) m n (pos A (I fv) m n k + j) := by rw [pluF, hsj, if_pos hk2]
                refine r_aload_n K dX6_follow_95 rfl ?_
                refine r_aload_n K dX6_follow_96 rfl ?_
                refine r_getI K dX6_follow_97 f_X6_22 rfl (by assumption) ?_
                rw [mI_ne ntp, hcnt]
                refine rcV1p K dX6_follow_100 c_X6_38 v_X0_at (by assumption) (k_at (T := T) (L := L) (P := P) (hn := hn) hf pf hfv (by omega)) (by decide) (Nat.le_of_ble_eq_true rfl) ?_
                rw [mI_ne nfp, mI_ne z1, jf, jv, cf, epj, if_pos (by omega), ep]
                refine r_goto K 112 dX6_follow_103 (by decide) ?_
                refine r_iast K dX6_follow_112 (by assumption) (by omega) (by omega) ?_
                rw [epj]
                refine r_aload_n K dX6_follow_113 rfl ?_
                refine r_dup K dX6_follow_114 ?_
                refine r_getI K dX6_follow_115 f_X6_22 rfl (by assumption) ?_
                rw [mI_ne ntb, mI_ne ntp, hcnt]
                refine r_iconst K dX6_follow_118 ?_
                refine r_iadd K dX6_follow_119 ?_
                refine r_putI K dX6_follow_120 f_X6_22 rfl rfl (Or.inl rfl) (by assumption) ?_
                exact j123 _ hjl rfl
            refine r_iload K dX6_follow_35 rfl ?_
            refine r_aload_n K dX6_follow_37 rfl ?_
            refine r_getR K dX6_follow_38 f_X6_34 rfl (by assumption) (by assumption) ?_
            refine r_iload_n K dX6_follow_41 rfl ?_
            refine r_iald K dX6_follow_42 (by assumption) (by omega) (by omega) ?_
            rw [Int.toNat_natCast, j1, w1]
            refine r_icmp_ge K 129 dX6_follow_43 (by decide) (fun c43 => ?_) (fun c43 => ?_)
            · have hje : j = (ch A (I fv) m n (pos A (I fv) m n k)).2.2.1.toNat := by omega
              subst hje
              refine r_iinc K dX6_follow_129 (by decide) rfl ?_
              refine r_goto K 7 dX6_follow_132 (by decide) ?_
              exact ih _ (by omega) (k + 1) _ _ _ J (by omega) rfl (by omega) (by rw [hcnt, pos]; omega) (by rw [pos]; exact harr) hfr hft
            · have hjl : j < (ch A (I fv) m n (pos A (I fv) m n k)).2.2.1.toNat := by omega
              have hsj := hseg hjl
              refine r_aload_n K dX6_follow_46 rfl ?_
              refine r_getI K dX6_follow_47 f_X6_22 rfl (by assumption) ?_
              rw [hcnt]
              refine r_bipush K dX6_follow_50 ?_
              refine r_icmp_ge K 129 dX6_follow_52 (by decide) (fun c52 => ?_) (fun c52 => ?_)
              · exact absurd c52 (by omega)
              · refine r_aload_n K dX6_follow_55 rfl ?_
                refine r_getR K dX6_follow_56 f_X6_9 rfl (by assumption) (by assumption) ?_
                refine r_aload_n K dX6_follow_59 rfl ?_
                refine r_getI K dX6_follow_60 f_X6_22 rfl (by assumption) ?_
                rw [hcnt]
                refine r_iload K dX6_follow_63 rfl ?_
                refine r_if_eq K 72 dX6_follow_65 (by decide) (fun c65 => ?_) (fun c65 => ?_)
                · have hk2 : (ch A (I fv) m n (pos A (I fv) m n k)).2.1 ≠ 2 := by rcases had with h | h; exact absurd h.1 (by omega); exact h.2
                  have hn2 := hok.2.2.2.2.2 hk2
                  have es : (ch A (I fv) m n (pos A (I fv) m n k)).2.2.2.1 + (j : Int) = srcF A (I fv) m n (pos A (I fv) m n k + j) := by
                    rw [srcF, hsj, if_neg hk2]; omega
                  refine r_aload_n K dX6_follow_72 rfl ?_
                  refine r_getR K dX6_follow_73 f_X6_37 rfl (by assumption) (by assumption) ?_
                  refine r_iload_n K dX6_follow_76 rfl ?_
                  refine r_iald K dX6_follow_77 (by assumption) (by omega) (by omega) ?_
                  rw [Int.toNat_natCast, j2, w2]
                  refine r_iload K dX6_follow_78 rfl ?_
                  refine r_iadd K dX6_follow_80 ?_
                  rw [es]
                  exact j81 hjl
                · have hk2 : (ch A (I fv) m n (pos A (I fv) m n k)).2.1 = 2 := by rcases had with h | h; exact h.2; exact absurd h.1 c65
                  have es : (-1 : Int) = srcF A (I fv) m n (pos A (I fv) m n k + j) := by rw [srcF, hsj, if_pos hk2]
                  refine r_iconst K dX6_follow_68 ?_
                  refine r_goto K 81 dX6_follow_69 (by decide) ?_
                  rw [es]
                  exact j81 hjl
        refine r_aload_n K dX6_follow_15 rfl ?_
        refine r_getR K dX6_follow_16 f_X6_31 rfl (by assumption) (by assumption) ?_
        refine r_iload_n K dX6_follow_19 rfl ?_
        refine r_iald K dX6_follow_20 (by assumption) (by omega) (by omega) ?_
        rw [Int.toNat_natCast, hfr k0 n0 x0 y0, w0]
        refine r_iconst K dX6_follow_21 ?_
        have j30 : ∀ ad : Int, (ad = 1 ∧ (ch A (I fv) m n (pos A (I fv) m n k)).2.1 = 2 ∨ ad = 0 ∧ (ch A (I fv) m n (pos A (I fv) m n k)).2.1 ≠ 2) → RR X Y Q 0 0 30 [some (.inr (some t)), some (.inr (some a)), some (.inr (some f)), some (.inl (k : Int)), g4, g5] [.inl ad] T L P J hn := by
          intro ad had
          refine r_istore K dX6_follow_30 (by decide) ?_
          refine r_iconst K dX6_follow_32 ?_
          refine r_istore K dX6_follow_33 (by decide) ?_
          exact inner _ 0 0 ad J rfl rfl (by omega) had (by rw [hcnt]; omega) harr hfr hft
        refine r_icmp_ne K 29 dX6_follow_22 (by decide) (fun c22 => ?_) (fun c22 => ?_)
        · refine r_iconst K dX6_follow_29 ?_
          first
            | exact j30 1 (Or.inl ⟨rfl, by omega⟩)
            | exact j30 0 (Or.inr ⟨rfl, by omega⟩)
        · refine r_iconst K dX6_follow_25 ?_
          refine r_goto K 30 dX6_follow_26 (by decide) ?_
          first
            | exact j30 1 (Or.inl ⟨rfl, by omega⟩)
            | exact j30 0 (Or.inr ⟨rfl, by omega⟩)
  refine r_aload_n K dX6_follow_0 rfl ?_
  refine r_iconst K dX6_follow_1 ?_
  refine r_putI K dX6_follow_2 f_X6_22 rfl rfl (Or.inl rfl) (by assumption) ?_
  refine r_iconst K dX6_follow_5 ?_
  refine r_istore_n K dX6_follow_6 (by decide) ?_
  exact loop _ 0 0 _ _ _ rfl rfl (by omega) (by rw [mI_eq]; rfl) (fun x hx => absurd hx (by simp [pos])) (fun c c1 c2 c3 => mI_ne c1) (fun j hj => mI_nj hj)
end FOL
end
section
/-- how long the run is from k on, as far as c goes -/
def lng (c : Nat → Bool) : Nat → Nat → Nat
  | 0, k => k
  | f + 1, k => if c k = true then lng c f (k + 1) else k
theorem lng_cong {c d : Nat → Bool} : ∀ {f k : Nat}, (∀ j, k ≤ j → j < k + f → c j = d j) → lng c f k = lng d f k
  | 0, _, _ => rfl
  | f + 1, k, h => by rw [lng, lng, h k (by omega) (by omega), lng_cong (fun j h1 h2 => h j (by omega) (by omega))]
theorem lng_in (c : Nat → Bool) : ∀ f k, k ≤ lng c f k ∧ lng c f k ≤ k + f ∧ ∀ j, k ≤ j → j < lng c f k → c j = true
  | 0, k => ⟨by simp [lng], by simp [lng], fun j h1 h2 => by rw [lng] at h2; omega⟩
  | f + 1, k => by
    have ih := lng_in c f (k + 1)
    rw [lng]
    split
    · rename_i h
      refine ⟨by omega, by omega, fun j h1 h2 => ?_⟩
      by_cases e : j = k
      · rw [e]; exact h
      · exact ih.2.2 j (by omega) h2
    · exact ⟨by omega, by omega, fun j h1 h2 => by omega⟩
def cAd (s : Nat → Int) (n q : Nat) : Nat → Bool := fun k => decide (k < 30 ∧ q + k < n ∧ s (q + k) = -1)
def cAl (s b : Nat → Int) (n q : Nat) : Nat → Bool := fun k => decide (q + k < n ∧ s (q + k) = s q + k ∧ b (q + k) = b q)
/-- the step of a melted patch that begins at i: kind, length, place, shift -/
def mch (s b : Nat → Int) (n i : Nat) : Int × Int × Int × Int := if s i = -1 then (2, (lng (cAd s n i) 120 1 : Nat), i, 0) else ((if b i = 0 then 0 else 1), (lng (cAl s b n i) 120 1 : Nat), s i, b i)
def mpos (s b : Nat → Int) (n : Nat) : Nat → Nat
  | 0 => 0
  | k + 1 => mpos s b n k + (mch s b n (mpos s b n k)).2.1.toNat
def mcost (s b : Nat → Int) (n : Nat) : Nat → Int
  | 0 => 3
  | k + 1 => mcost s b n k + spr (mch s b n (mpos s b n k)).1 (mch s b n (mpos s b n k)).2.1
theorem mch_ok {s b : Nat → Int} {n i : Nat} (hi : i < n) (hn : n ≤ 120) : ((mch s b n i).1 = 0 ∨ (mch s b n i).1 = 1 ∨ (mch s b n i).1 = 2) ∧ 1 ≤ (mch s b n i).2.1 ∧ (i : Int) + (mch s b n i).2.1 ≤ n := by
  unfold mch
  split
  · have h := lng_in (cAd s n i) 120 1
    refine ⟨Or.inr (Or.inr rfl), by simp only; omega, ?_⟩
    simp only
    rcases Nat.lt_or_ge (lng (cAd s n i) 120 1) 2 with e | e
    · omega
    · have := h.2.2 (lng (cAd s n i) 120 1 - 1) (by omega) (by omega)
      have := (of_decide_eq_true this).2.1
      omega
  · have h := lng_in (cAl s b n i) 120 1
    refine ⟨by simp only; split <;> simp, by simp only; omega, ?_⟩
    simp only
    rcases Nat.lt_or_ge (lng (cAl s b n i) 120 1) 2 with e | e
    · omega
    · have := h.2.2 (lng (cAl s b n i) 120 1 - 1) (by omega) (by omega)
      have := (of_decide_eq_true this).1
      omega
/-- a patch's cells hold the melted steps -/
def MK (s b : Nat → Int) (n a k0 k1 k2 k3 : Nat) (J : Nat → Nat → Int) : Prop :=
  ∃ N, mpos s b n N = n ∧ (∀ k, k < N → mpos s b n k < n) ∧ J a 4 = N ∧ J a 5 = mcost s b n N ∧ ∀ k, k < N → (J k0 k, J k1 k, J k2 k, J k3 k) = mch s b n (mpos s b n k)
section GAT
variable {T L : Nat → Nat} {P : Nat → Nat → Option Nat} {I : Nat → Nat → Int} {hn t tp tb e ep eb n : Nat}

set_option maxHeartbeats 4000000 in
set_option maxRecDepth 100000 in
theorem k_take (ht : T t = 6) (q0 : P t 0 = some tp) (q1 : P t 1 = some tb) (s0 : T tp = 10) (s1 : T tb = 10) (m0 : L tp = 120) (m1 : L tb = 120) (he : T e = 6) (e0 : P e 0 = some ep) (e1 : P e 1 = some eb) (v0 : T ep = 10) (v1 : T eb = 10) (l0 : L ep = 120) (l1 : L eb = 120) (d1 : tp ≠ ep) (d2 : tb ≠ ep) (d3 : tp ≠ eb) (d4 : tb ≠ eb) (d5 : tp ≠ tb) : iX6_take [.inr (some t), .inr (some e)] T L P I hn (fun r J => r = none ∧ (∀ c, c ≠ t → c ≠ tp → c ≠ tb → J c = I c) ∧ J t 3 = I e 3 ∧ (∀ j, j ≠ 3 → J t j = I t j) ∧ ∀ j, j < 120 → J tp j = I ep j ∧ J tb j = I eb j) := by
  refine CT.by (by decide) (Nat.le_of_ble_eq_true rfl) fun X Y Q hQ K hv => ?_
  have n1 : e ≠ tp := fun h => by rw [h] at he; omega
  have n2 : e ≠ tb := fun h => by rw [h] at he; omega
  have n3 : t ≠ tp := fun h => by rw [h] at ht; omega
  have n4 : t ≠ tb := fun h => by rw [h] at ht; omega
  refine r_aload_n K dX6_take_0 rfl ?_
  refine r_getR K dX6_take_1 f_X6_9 rfl (by assumption) (by assumption) ?_
  refine r_iconst K dX6_take_4 ?_
  refine r_aload_n K dX6_take_5 rfl ?_
  refine r_getR K dX6_take_6 f_X6_9 rfl (by assumption) (by assumption) ?_
  refine r_iconst K dX6_take_9 ?_
  refine r_bipush K dX6_take_10 ?_
  refine r_copy K dX6_take_12 a_X6_47 (by assumption) (by assumption) (by omega) (by omega) (by omega) (Nat.le_of_ble_eq_true rfl) (Nat.le_of_ble_eq_true rfl) ?_
  refine r_aload_n K dX6_take_15 rfl ?_
  refine r_getR K dX6_take_16 f_X6_15 rfl (by assumption) (by assumption) ?_
  refine r_iconst K dX6_take_19 ?_
  refine r_aload_n K dX6_take_20 rfl ?_
  refine r_getR K dX6_take_21 f_X6_15 rfl (by assumption) (by assumption) ?_
  refine r_iconst K dX6_take_24 ?_
  refine r_bipush K dX6_take_25 ?_
  refine r_copy K dX6_take_27 a_X6_47 (by assumption) (by assumption) (by omega) (by omega) (by omega) (Nat.le_of_ble_eq_true rfl) (Nat.le_of_ble_eq_true rfl) ?_
  refine r_aload_n K dX6_take_30 rfl ?_
  refine r_aload_n K dX6_take_31 rfl ?_
  refine r_getI K dX6_take_32 f_X6_22 rfl (by assumption) ?_
  rw [mR_ne n2, mR_ne n1]
  refine r_putI K dX6_take_35 f_X6_22 rfl rfl (Or.inl rfl) (by assumption) ?_
  exact q_vret K hQ rfl dX6_take_38 (Nat.le_refl _) (Nat.le_refl _) (⟨rfl, rfl, rfl, rfl, rfl, fun c c1 c2 c3 => by rw [mI_ne c1, mR_ne c3, mR_ne c2], mI_eq, fun j hj => by rw [mI_nj hj, mR_ne n4, mR_ne n3], fun j hj => by
    rw [mI_ne (Ne.symm n3), mI_ne (Ne.symm n4), mR_ne d5, mR_eq, mR_eq, mR_ne (Ne.symm d3)]
    try simp only [mR_eq]
    exact ⟨if_pos (by omega), if_pos (by omega)⟩⟩)
set_option maxHeartbeats 4000000 in
set_option maxRecDepth 100000 in
theorem k_reachThrough (ht : T t = 6) (q0 : P t 0 = some tp) (q1 : P t 1 = some tb) (s0 : T tp = 10) (s1 : T tb = 10) (m0 : L tp = 120) (m1 : L tb = 120) (he : T e = 6) (e0 : P e 0 = some ep) (e1 : P e 1 = some eb) (v0 : T ep = 10) (v1 : T eb = 10) (l0 : L ep = 120) (l1 : L eb = 120) (d1 : tp ≠ ep) (d2 : tb ≠ ep) (d3 : tp ≠ eb) (d4 : tb ≠ eb) (d5 : tp ≠ tb) (hc : I t 3 = n) (hn1 : n ≤ 120) (hce : I e 3 ≤ 120) (hb : ∀ x, x < n → 0 ≤ I tb x ∧ I tb x < 256) (hb2 : ∀ x : Nat, x < 120 → (x : Int) < I e 3 → 0 ≤ I eb x ∧ I eb x < 256) : iX6_reachThrough [.inr (some t), .inr (some e)] T L P I hn (fun r J => r = none ∧ (∀ c, c ≠ tp → c ≠ tb → J c = I c) ∧ ∀ x, x < n → J tp x = (if 0 ≤ I tp x ∧ I tp x < I e 3 then I ep (I tp x).toNat else I tp x) ∧ J tb x = (if 0 ≤ I tp x ∧ I tp x < I e 3 then (I tb x + I eb (I tp x).toNat) % 256 else I tb x)) := by
  refine CT.by (by decide) (Nat.le_of_ble_eq_true rfl) fun X Y Q hQ K hv => ?_
  have n1 : e ≠ tp := fun h => by rw [h] at he; omega
  have n2 : e ≠ tb := fun h => by rw [h] at he; omega
  have n3 : t ≠ tp := fun h => by rw [h] at ht; omega
  have n4 : t ≠ tb := fun h => by rw [h] at ht; omega
  have loop : ∀ (d q : Nat) (z : Int) (g3 : Option PV) (J : Nat → Nat → Int), z = q → n - q = d → q ≤ n → (∀ c, c ≠ tp → c ≠ tb → J c = I c) → (∀ x, x < q → J tp x = (if 0 ≤ I tp x ∧ I tp x < I e 3 then I ep (I tp x).toNat else I tp x) ∧ J tb x = (if 0 ≤ I tp x ∧ I tp x < I e 3 then (I tb x + I eb (I tp x).toNat) % 256 else I tb x)) → (∀ x, q ≤ x → J tp x = I tp x ∧ J tb x = I tb x) → RR X Y Q 0 0 2 [some (.inr (some t)), some (.inr (some e)), some (.inl z), g3] [] T L P J hn := by
    intro d
    induction d using Nat.strongRecOn with
    | ind d ih =>
      intro q z g3 J hz hd hq hfr hdone htodo
      subst hz
      have jt : J t = I t := hfr t n3 n4
      have je : J e = I e := hfr e n1 n2
      have jep : J ep = I ep := hfr ep (Ne.symm d1) (Ne.symm d2)
      have jeb : J eb = I eb := hfr eb (Ne.symm d3) (Ne.symm d4)
      obtain ⟨t1, t2⟩ := htodo q (Nat.le_refl _)
      have skip_ : ∀ g3, q < n → ¬ (0 ≤ I tp q ∧ I tp q < I e 3) → RR X Y Q 0 0 64 [some (.inr (some t)), some (.inr (some e)), some (.inl (q : Int)), g3] [] T L P J hn := by
        intro g3 hqn hno
        refine r_iinc K dX6_reachThrough_64 (by decide) rfl ?_
        refine r_goto K 2 dX6_reachThrough_67 (by decide) ?_
        refine ih _ (by omega) (q + 1) _ _ J (by omega) rfl (by omega) hfr (fun x hx => ?_) (fun x hx => htodo x (by omega))
        by_cases ex : x = q
        · subst ex
          rw [if_neg hno, if_neg hno]; exact ⟨t1, t2⟩
        · exact hdone x (by omega)
      refine r_iload_n K dX6_reachThrough_2 rfl ?_
      refine r_aload_n K dX6_reachThrough_3 rfl ?_
      refine r_getI K dX6_reachThrough_4 f_X6_22 rfl (by assumption) ?_
      rw [jt, hc]
      refine r_icmp_ge K 70 dX6_reachThrough_7 (by decide) (fun c7 => ?_) (fun c7 => ?_)
      · exact q_vret K hQ rfl dX6_reachThrough_70 (Nat.le_refl _) (Nat.le_refl _) ⟨rfl, rfl, rfl, rfl, rfl, hfr, fun x hx => hdone x (by omega)⟩
      · have hqn : q < n := by omega
        have hbq := hb q hqn
        refine r_aload_n K dX6_reachThrough_10 rfl ?_
        refine r_getR K dX6_reachThrough_11 f_X6_9 rfl (by assumption) (by assumption) ?_
        refine r_iload_n K dX6_reachThrough_14 rfl ?_
        refine r_iald K dX6_reachThrough_15 (by assumption) (by omega) (by omega) ?_
        rw [Int.toNat_natCast, t1]
        refine r_istore_n K dX6_reachThrough_16 (by decide) ?_
        refine r_iload_n K dX6_reachThrough_17 rfl ?_
        refine r_if_lt K 64 dX6_reachThrough_18 (by decide) (fun c18 => ?_) (fun c18 => ?_)
        · exact skip_ _ hqn (by omega)
        · refine r_iload_n K dX6_reachThrough_21 rfl ?_
          refine r_aload_n K dX6_reachThrough_22 rfl ?_
          refine r_getI K dX6_reachThrough_23 f_X6_22 rfl (by assumption) ?_
          rw [je]
          refine r_icmp_ge K 64 dX6_reachThrough_26 (by decide) (fun c26 => ?_) (fun c26 => ?_)
          · exact skip_ _ hqn (by omega)
          · have hb2q := hb2 (I tp q).toNat (by omega) (by omega)
            refine r_aload_n K dX6_reachThrough_29 rfl ?_
            refine r_getR K dX6_reachThrough_30 f_X6_9 rfl (by assumption) (by assumption) ?_
            refine r_iload_n K dX6_reachThrough_33 rfl ?_
            refine r_aload_n K dX6_reachThrough_34 rfl ?_
            refine r_getR K dX6_reachThrough_35 f_X6_9 rfl (by assumption) (by assumption) ?_
            refine r_iload_n K dX6_reachThrough_38 rfl ?_
            refine r_iald K dX6_reachThrough_39 (by assumption) (by omega) (by omega) ?_
            rw [jep]
            refine r_iast K dX6_reachThrough_40 (by assumption) (by omega) (by omega) ?_
            refine r_aload_n K dX6_reachThrough_41 rfl ?_
            refine r_getR K dX6_reachThrough_42 f_X6_15 rfl (by assumption) (by assumption) ?_
            refine r_iload_n K dX6_reachThrough_45 rfl ?_
            refine r_aload_n K dX6_reachThrough_46 rfl ?_
            refine r_getR K dX6_reachThrough_47 f_X6_15 rfl (by assumption) (by assumption) ?_
            refine r_iload_n K dX6_reachThrough_50 rfl ?_
            refine r_iald K dX6_reachThrough_51 (by assumption) (by omega) (by omega) ?_
            rw [mI_ne (Ne.symm d5), Int.toNat_natCast, t2]
            refine r_aload_n K dX6_reachThrough_52 rfl ?_
            refine r_getR K dX6_reachThrough_53 f_X6_15 rfl (by assumption) (by assumption) ?_
            refine r_iload_n K dX6_reachThrough_56 rfl ?_
            refine r_iald K dX6_reachThrough_57 (by assumption) (by omega) (by omega) ?_
            rw [mI_ne (Ne.symm d3), jeb]
            refine r_iadd K dX6_reachThrough_58 ?_
            refine r_sipush K dX6_reachThrough_59 ?_
            refine r_iand K dX6_reachThrough_62 ?_
            rw [zAnd_255 (show rg _ from ⟨by omega, by omega⟩)]
            refine r_iast K dX6_reachThrough_63 (by assumption) (by omega) (by omega) ?_
            refine r_iinc K dX6_reachThrough_64 (by decide) rfl ?_
            refine r_goto K 2 dX6_reachThrough_67 (by decide) ?_
            refine ih _ (by omega) (q + 1) _ _ _ (by omega) rfl (by omega) (fun c c1 c2 => by rw [mI_ne c2, mI_ne c1]; exact hfr c c1 c2) (fun x hx => ?_) (fun x hx => ?_)
            · rw [mI_ne d5, mI_row, mI_row, mI_ne (Ne.symm d5), Int.toNat_natCast]
              by_cases ex : x = q
              · subst ex
                rw [if_pos rfl, if_pos rfl, if_pos ⟨by omega, by omega⟩, if_pos ⟨by omega, by omega⟩]; exact ⟨rfl, rfl⟩
              · rw [if_neg ex, if_neg ex]; exact hdone x (by omega)
            · rw [mI_ne d5, mI_row, mI_row, mI_ne (Ne.symm d5), Int.toNat_natCast, if_neg (by omega), if_neg (by omega)]; exact htodo x (by omega)
  refine r_iconst K dX6_reachThrough_0 ?_
  refine r_istore_n K dX6_reachThrough_1 (by decide) ?_
  exact loop _ 0 0 _ I rfl rfl (by omega) (fun _ _ _ => rfl) (fun x hx => absurd hx (by omega)) (fun _ _ => ⟨rfl, rfl⟩)
set_option maxHeartbeats 4000000 in
set_option maxRecDepth 100000 in
theorem k_addedFrom {q : Nat} (ht : T t = 6) (q0 : P t 0 = some tp) (q1 : P t 1 = some tb) (s0 : T tp = 10) (s1 : T tb = 10) (m0 : L tp = 120) (m1 : L tb = 120) (hc : I t 3 = n) (hn1 : n ≤ 120) (hq : q < n) : pX6_addedFrom [.inr (some t), .inl (q : Int)] T L P I hn (.inl ((lng (cAd (I tp) n q) 120 1 : Nat) : Int)) := by
  refine CT.by (by decide) (Nat.le_of_ble_eq_true rfl) fun X Y Q hQ K hv => ?_
  have loop : ∀ (f k : Nat) (z : Int), z = k → k + f = 121 → 1 ≤ k → lng (cAd (I tp) n q) f k = lng (cAd (I tp) n q) 120 1 → RR X Y Q 0 0 2 [some (.inr (some t)), some (.inl (q : Int)), some (.inl z)] [] T L P I hn := by
    intro f
    induction f with
    | zero =>
      intro k z hz hk h1 he
      subst hz
      have ek : ((q : Int) + k).toNat = q + k := by omega
      have hfin : RR X Y Q 0 0 36 [some (.inr (some t)), some (.inl (q : Int)), some (.inl (k : Int))] [] T L P I hn := by
        refine r_iload_n K dX6_addedFrom_36 rfl ?_
        exact q_iret K hQ rfl dX6_addedFrom_37 (Nat.le_refl _) (Nat.le_refl _) (⟨by rw [← he]; rfl, rfl, rfl, rfl, rfl, rfl⟩)
      refine r_iload_n K dX6_addedFrom_2 rfl ?_
      refine r_bipush K dX6_addedFrom_3 ?_
      refine r_icmp_ge K 36 dX6_addedFrom_5 (by decide) (fun c5 => ?_) (fun c5 => ?_)
      · exact hfin
      · exact absurd c5 (by omega)
    | succ f ih =>
      intro k z hz hk h1 he
      subst hz
      have ek : ((q : Int) + k).toNat = q + k := by omega
      have no : ¬ (cAd (I tp) n q) k = true → RR X Y Q 0 0 36 [some (.inr (some t)), some (.inl (q : Int)), some (.inl (k : Int))] [] T L P I hn := by
        intro hno
        rw [lng, if_neg hno] at he
        refine r_iload_n K dX6_addedFrom_36 rfl ?_
        exact q_iret K hQ rfl dX6_addedFrom_37 (Nat.le_refl _) (Nat.le_refl _) (⟨by rw [← he], rfl, rfl, rfl, rfl, rfl⟩)
      refine r_iload_n K dX6_addedFrom_2 rfl ?_
      refine r_bipush K dX6_addedFrom_3 ?_
      refine r_icmp_ge K 36 dX6_addedFrom_5 (by decide) (fun c5 => ?_) (fun c5 => ?_)
      · exact no (fun h => by have := of_decide_eq_true h; omega)
      · refine r_iload_n K dX6_addedFrom_8 rfl ?_
        refine r_iload_n K dX6_addedFrom_9 rfl ?_
        refine r_iadd K dX6_addedFrom_10 ?_
        refine r_aload_n K dX6_addedFrom_11 rfl ?_
        refine r_getI K dX6_addedFrom_12 f_X6_22 rfl (by assumption) ?_
        rw [hc]
        refine r_icmp_ge K 36 dX6_addedFrom_15 (by decide) (fun c15 => ?_) (fun c15 => ?_)
        · exact no (fun h => by have := of_decide_eq_true h; omega)
        · refine r_aload_n K dX6_addedFrom_18 rfl ?_
          refine r_getR K dX6_addedFrom_19 f_X6_9 rfl (by assumption) (by assumption) ?_
          refine r_iload_n K dX6_addedFrom_22 rfl ?_
          refine r_iload_n K dX6_addedFrom_23 rfl ?_
          refine r_iadd K dX6_addedFrom_24 ?_
          refine r_iald K dX6_addedFrom_25 (by assumption) (by omega) (by omega) ?_
          rw [ek]
          refine r_iconst K dX6_addedFrom_26 ?_
          refine r_icmp_ne K 36 dX6_addedFrom_27 (by decide) (fun c27 => ?_) (fun c27 => ?_)
          · exact no (fun h => by have := of_decide_eq_true h; omega)
          · refine r_iinc K dX6_addedFrom_30 (by decide) rfl ?_
            refine r_goto K 2 dX6_addedFrom_33 (by decide) ?_
            refine ih (k + 1) _ (by omega) (by omega) (by omega) ?_
            have hcc : cAd (I tp) n q k = true := by unfold cAd; exact decide_eq_true ⟨by omega, by omega, c27⟩
            rw [lng, if_pos hcc] at he
            exact he
  refine r_iconst K dX6_addedFrom_0 ?_
  refine r_istore_n K dX6_addedFrom_1 (by decide) ?_
  exact loop 120 1 1 rfl rfl (by omega) rfl
set_option maxHeartbeats 4000000 in
set_option maxRecDepth 100000 in
theorem k_alikeFrom {q : Nat} (ht : T t = 6) (q0 : P t 0 = some tp) (q1 : P t 1 = some tb) (s0 : T tp = 10) (s1 : T tb = 10) (m0 : L tp = 120) (m1 : L tb = 120) (hc : I t 3 = n) (hn1 : n ≤ 120) (hq : q < n) (hs : ∀ x, x < n → -1000 ≤ I tp x ∧ I tp x < 1000) : pX6_alikeFrom [.inr (some t), .inl (q : Int)] T L P I hn (.inl ((lng (cAl (I tp) (I tb) n q) 120 1 : Nat) : Int)) := by
  refine CT.by (by decide) (Nat.le_of_ble_eq_true rfl) fun X Y Q hQ K hv => ?_
  have loop : ∀ (f k : Nat) (z : Int), z = k → k + f = 121 → 1 ≤ k → lng (cAl (I tp) (I tb) n q) f k = lng (cAl (I tp) (I tb) n q) 120 1 → RR X Y Q 0 0 2 [some (.inr (some t)), some (.inl (q : Int)), some (.inl z)] [] T L P I hn := by
    intro f
    induction f with
    | zero =>
      intro k z hz hk h1 he
      subst hz
      have ek : ((q : Int) + k).toNat = q + k := by omega
      have hfin : RR X Y Q 0 0 54 [some (.inr (some t)), some (.inl (q : Int)), some (.inl (k : Int))] [] T L P I hn := by
        refine r_iload_n K dX6_alikeFrom_54 rfl ?_
        exact q_iret K hQ rfl dX6_alikeFrom_55 (Nat.le_refl _) (Nat.le_refl _) (⟨by rw [← he]; rfl, rfl, rfl, rfl, rfl, rfl⟩)
      refine r_iload_n K dX6_alikeFrom_2 rfl ?_
      refine r_iload_n K dX6_alikeFrom_3 rfl ?_
      refine r_iadd K dX6_alikeFrom_4 ?_
      refine r_aload_n K dX6_alikeFrom_5 rfl ?_
      refine r_getI K dX6_alikeFrom_6 f_X6_22 rfl (by assumption) ?_
      rw [hc]
      refine r_icmp_ge K 54 dX6_alikeFrom_9 (by decide) (fun c9 => ?_) (fun c9 => ?_)
      · exact hfin
      · exact absurd c9 (by omega)
    | succ f ih =>
      intro k z hz hk h1 he
      subst hz
      have ek : ((q : Int) + k).toNat = q + k := by omega
      have no : ¬ (cAl (I tp) (I tb) n q) k = true → RR X Y Q 0 0 54 [some (.inr (some t)), some (.inl (q : Int)), some (.inl (k : Int))] [] T L P I hn := by
        intro hno
        rw [lng, if_neg hno] at he
        refine r_iload_n K dX6_alikeFrom_54 rfl ?_
        exact q_iret K hQ rfl dX6_alikeFrom_55 (Nat.le_refl _) (Nat.le_refl _) (⟨by rw [← he], rfl, rfl, rfl, rfl, rfl⟩)
      refine r_iload_n K dX6_alikeFrom_2 rfl ?_
      refine r_iload_n K dX6_alikeFrom_3 rfl ?_
      refine r_iadd K dX6_alikeFrom_4 ?_
      refine r_aload_n K dX6_alikeFrom_5 rfl ?_
      refine r_getI K dX6_alikeFrom_6 f_X6_22 rfl (by assumption) ?_
      rw [hc]
      refine r_icmp_ge K 54 dX6_alikeFrom_9 (by decide) (fun c9 => ?_) (fun c9 => ?_)
      · exact no (fun h => by have := of_decide_eq_true h; omega)
      · have hs1 := hs q (by omega)
        have hs2 := hs (q + k) (by omega)
        refine r_aload_n K dX6_alikeFrom_12 rfl ?_
        refine r_getR K dX6_alikeFrom_13 f_X6_9 rfl (by assumption) (by assumption) ?_
        refine r_iload_n K dX6_alikeFrom_16 rfl ?_
        refine r_iload_n K dX6_alikeFrom_17 rfl ?_
        refine r_iadd K dX6_alikeFrom_18 ?_
        refine r_iald K dX6_alikeFrom_19 (by assumption) (by omega) (by omega) ?_
        rw [ek]
        refine r_aload_n K dX6_alikeFrom_20 rfl ?_
        refine r_getR K dX6_alikeFrom_21 f_X6_9 rfl (by assumption) (by assumption) ?_
        refine r_iload_n K dX6_alikeFrom_24 rfl ?_
        refine r_iald K dX6_alikeFrom_25 (by assumption) (by omega) (by omega) ?_
        simp only [Int.toNat_natCast]
        refine r_iload_n K dX6_alikeFrom_26 rfl ?_
        refine r_iadd K dX6_alikeFrom_27 ?_
        refine r_icmp_ne K 54 dX6_alikeFrom_28 (by decide) (fun c28 => ?_) (fun c28 => ?_)
        · exact no (fun h => by have := of_decide_eq_true h; omega)
        · refine r_aload_n K dX6_alikeFrom_31 rfl ?_
          refine r_getR K dX6_alikeFrom_32 f_X6_15 rfl (by assumption) (by assumption) ?_
          refine r_iload_n K dX6_alikeFrom_35 rfl ?_
          refine r_iload_n K dX6_alikeFrom_36 rfl ?_
          refine r_iadd K dX6_alikeFrom_37 ?_
          refine r_iald K dX6_alikeFrom_38 (by assumption) (by omega) (by omega) ?_
          rw [ek]
          refine r_aload_n K dX6_alikeFrom_39 rfl ?_
          refine r_getR K dX6_alikeFrom_40 f_X6_15 rfl (by assumption) (by assumption) ?_
          refine r_iload_n K dX6_alikeFrom_43 rfl ?_
          refine r_iald K dX6_alikeFrom_44 (by assumption) (by omega) (by omega) ?_
          simp only [Int.toNat_natCast]
          refine r_icmp_ne K 54 dX6_alikeFrom_45 (by decide) (fun c45 => ?_) (fun c45 => ?_)
          · exact no (fun h => by have := of_decide_eq_true h; omega)
          · refine r_iinc K dX6_alikeFrom_48 (by decide) rfl ?_
            refine r_goto K 2 dX6_alikeFrom_51 (by decide) ?_
            refine ih (k + 1) _ (by omega) (by omega) (by omega) ?_
            have hcc : cAl (I tp) (I tb) n q k = true := by unfold cAl; exact decide_eq_true ⟨by omega, c28, c45⟩
            rw [lng, if_pos hcc] at he
            exact he
  refine r_iconst K dX6_alikeFrom_0 ?_
  refine r_istore_n K dX6_alikeFrom_1 (by decide) ?_
  exact loop 120 1 1 rfl rfl (by omega) rfl
set_option maxHeartbeats 4000000 in
set_option maxRecDepth 100000 in
theorem k_gather {a k0 k1 k2 k3 : Nat} (ht : T t = 6) (q0 : P t 0 = some tp) (q1 : P t 1 = some tb) (s0 : T tp = 10) (s1 : T tb = 10) (m0 : L tp = 120) (m1 : L tb = 120) (ha : T a = 3) (p0 : P a 0 = some k0) (p1 : P a 1 = some k1) (p2 : P a 2 = some k2) (p3 : P a 3 = some k3) (t0 : T k0 = 10) (t1 : T k1 = 10) (t2 : T k2 = 10) (t3 : T k3 = 10) (l0 : L k0 = 120) (l1 : L k1 = 120) (l2 : L k2 = 120) (l3 : L k3 = 120) (d1 : k0 ≠ k1) (d2 : k0 ≠ k2) (d3 : k0 ≠ k3) (d4 : k1 ≠ k2) (d5 : k1 ≠ k3) (d6 : k2 ≠ k3) (x0 : tp ≠ k0) (x1 : tp ≠ k1) (x2 : tp ≠ k2) (x3 : tp ≠ k3) (y0 : tb ≠ k0) (y1 : tb ≠ k1) (y2 : tb ≠ k2) (y3 : tb ≠ k3) (hc : I t 3 = n) (hn1 : n ≤ 120) (hs : ∀ x, x < n → -1 ≤ I tp x ∧ I tp x < 1000) : iX6_gather [.inr (some t), .inr (some a)] T L P I hn (fun r J => r = none ∧ (∀ c, c ≠ a → c ≠ k0 → c ≠ k1 → c ≠ k2 → c ≠ k3 → J c = I c) ∧ MK (I tp) (I tb) n a k0 k1 k2 k3 J) := by
  refine CT.by (by decide) (Nat.le_of_ble_eq_true rfl) fun X Y Q hQ K hv => ?_
  have e0 : a ≠ k0 := fun e => by rw [e] at ha; omega
  have e1 : a ≠ k1 := fun e => by rw [e] at ha; omega
  have e2 : a ≠ k2 := fun e => by rw [e] at ha; omega
  have e3 : a ≠ k3 := fun e => by rw [e] at ha; omega
  have ta : t ≠ a := fun e => by rw [e] at ht; omega
  have f0 : t ≠ k0 := fun e => by rw [e] at ht; omega
  have f1 : t ≠ k1 := fun e => by rw [e] at ht; omega
  have f2 : t ≠ k2 := fun e => by rw [e] at ht; omega
  have f3 : t ≠ k3 := fun e => by rw [e] at ht; omega
  have pa : tp ≠ a := fun e => by rw [e] at s0; omega
  have ba : tb ≠ a := fun e => by rw [e] at s1; omega
  have loop : ∀ (d i k : Nat) (z w : Int) (g4 : Option PV) (J : Nat → Nat → Int), z = i → w = mpos (I tp) (I tb) n k → n - i = d → i ≤ n → i ≤ mpos (I tp) (I tb) n k → mpos (I tp) (I tb) n k ≤ n → k ≤ mpos (I tp) (I tb) n k → J a 4 = k → J a 5 = mcost (I tp) (I tb) n k → 0 ≤ J a 5 → J a 5 ≤ 121 * k + 3 → (∀ b, b ≠ a → b ≠ k0 → b ≠ k1 → b ≠ k2 → b ≠ k3 → J b = I b) → (∀ q, q < k → mpos (I tp) (I tb) n q < n ∧ (J k0 q, J k1 q, J k2 q, J k3 q) = mch (I tp) (I tb) n (mpos (I tp) (I tb) n q)) →
      RR X Y Q 0 0 8 [some (.inr (some t)), some (.inr (some a)), some (.inl w), some (.inl z), g4] [] T L P J hn := by
    intro d
    induction d using Nat.strongRecOn with
    | ind d ih =>
      intro i k z w g4 J hz hw hd hi hik hkn hkk h4 h5 h50 h51 hfr harr
      subst hz; subst hw
      have jt : J t = I t := hfr t ta f0 f1 f2 f3
      have jp : J tp = I tp := hfr tp pa x0 x1 x2 x3
      have jb : J tb = I tb := hfr tb ba y0 y1 y2 y3
      have fin : mpos (I tp) (I tb) n k = i → i < n → ∀ (J1 : Nat → Nat → Int), J1 = mI (mI (mI (mI (mI (mI J k0 k (mch (I tp) (I tb) n i).1) k1 k (mch (I tp) (I tb) n i).2.1) k2 k (mch (I tp) (I tb) n i).2.2.1) k3 k (mch (I tp) (I tb) n i).2.2.2) a 4 ((k : Int) + 1)) a 5 (J a 5 + spr (mch (I tp) (I tb) n i).1 (mch (I tp) (I tb) n i).2.1) → RR X Y Q 0 0 100 [some (.inr (some t)), some (.inr (some a)), some (.inl (mpos (I tp) (I tb) n k : Int)), some (.inl (i : Int)), some (.inl (mch (I tp) (I tb) n i).2.1)] [] T L P J1 hn := by
        intro hpi hin J1 hJ1
        have hok := mch_ok (s := I tp) (b := I tb) hin hn1
        have hsp : 0 ≤ spr (mch (I tp) (I tb) n i).1 (mch (I tp) (I tb) n i).2.1 ∧ spr (mch (I tp) (I tb) n i).1 (mch (I tp) (I tb) n i).2.1 ≤ 121 := by
          unfold spr
          split
          · omega
          · split <;> omega
        refine r_iload_n K dX6_gather_100 rfl ?_
        refine r_iload K dX6_gather_101 rfl ?_
        refine r_iadd K dX6_gather_103 ?_
        refine r_istore_n K dX6_gather_104 (by decide) ?_
        refine r_iinc K dX6_gather_105 (by decide) rfl ?_
        refine r_goto K 8 dX6_gather_108 (by decide) ?_
        have hps : mpos (I tp) (I tb) n (k + 1) = i + (mch (I tp) (I tb) n i).2.1.toNat := by rw [mpos, hpi]
        refine ih _ (by omega) (i + 1) (k + 1) _ _ _ J1 (by omega) (by rw [hps]; omega) rfl (by omega) (by rw [hps]; omega) (by rw [hps]; omega) (by rw [hps]; omega) ?_ ?_ ?_ ?_ (fun b b1 b2 b3 b4 b5 => ?_) (fun q hq => ?_)
        · rw [hJ1, mI_nj (by decide), mI_eq]; omega
        · rw [hJ1, mI_eq, mcost, hpi, h5]
        · rw [hJ1, mI_eq]; omega
        · rw [hJ1, mI_eq]; omega
        · rw [hJ1, mI_ne b1, mI_ne b1, mI_ne b5, mI_ne b4, mI_ne b3, mI_ne b2]; exact hfr b b1 b2 b3 b4 b5
        · rw [hJ1]
          simp only [mI_row, mI_ne, ne_eq, not_false_eq_true, e0, e1, e2, e3, d1, d2, d3, d4, d5, d6, e0.symm, e1.symm, e2.symm, e3.symm, d1.symm, d2.symm, d3.symm, d4.symm, d5.symm, d6.symm]
          by_cases eq : q = k
          · subst eq
            simp only [if_true]
            exact ⟨by omega, by rw [hpi]⟩
          · simp only [if_neg eq]
            exact harr q (by omega)
      have had := k_addedFrom (T := T) (L := L) (P := P) (I := J) (hn := hn) (n := n) (q := i) ht q0 q1 s0 s1 m0 m1 (by rw [jt]; exact hc) hn1
      have hal := k_alikeFrom (T := T) (L := L) (P := P) (I := J) (hn := hn) (n := n) (q := i) ht q0 q1 s0 s1 m0 m1 (by rw [jt]; exact hc) hn1
      rw [jp] at had hal
      rw [jb] at hal
      have j44 : mpos (I tp) (I tb) n k = i → i < n → ∀ g4, RR X Y Q 0 0 44 [some (.inr (some t)), some (.inr (some a)), some (.inl (mpos (I tp) (I tb) n k : Int)), some (.inl (i : Int)), g4] [.inl (mch (I tp) (I tb) n i).2.1] T L P J hn := by
        intro hpi hin g4
        have hok := mch_ok (s := I tp) (b := I tb) hin hn1
        refine r_istore K dX6_gather_44 (by decide) ?_
        refine r_aload_n K dX6_gather_46 rfl ?_
        refine r_getR K dX6_gather_47 f_X6_9 rfl (by assumption) (by assumption) ?_
        refine r_iload_n K dX6_gather_50 rfl ?_
        refine r_iald K dX6_gather_51 (by assumption) (by omega) (by omega) ?_
        rw [Int.toNat_natCast, jp]
        refine r_iconst K dX6_gather_52 ?_
        refine r_icmp_ne K 68 dX6_gather_53 (by decide) (fun c53 => ?_) (fun c53 => ?_)
        · refine r_aload_n K dX6_gather_68 rfl ?_
          refine r_aload_n K dX6_gather_69 rfl ?_
          refine r_getR K dX6_gather_70 f_X6_15 rfl (by assumption) (by assumption) ?_
          refine r_iload_n K dX6_gather_73 rfl ?_
          refine r_iald K dX6_gather_74 (by assumption) (by omega) (by omega) ?_
          rw [Int.toNat_natCast, jb]
          refine r_if_ne K 82 dX6_gather_75 (by decide) (fun c75 => ?_) (fun c75 => ?_)
          · have em : mch (I tp) (I tb) n i = (1, (mch (I tp) (I tb) n i).2.1, I tp i, I tb i) := by rw [mch, if_neg c53, if_neg c75]
            refine r_iconst K dX6_gather_82 ?_
            refine r_iload K dX6_gather_83 rfl ?_
            refine r_aload_n K dX6_gather_85 rfl ?_
            refine r_getR K dX6_gather_86 f_X6_9 rfl (by assumption) (by assumption) ?_
            refine r_iload_n K dX6_gather_89 rfl ?_
            refine r_iald K dX6_gather_90 (by assumption) (by omega) (by omega) ?_
            rw [Int.toNat_natCast, jp]
            refine r_aload_n K dX6_gather_91 rfl ?_
            refine r_getR K dX6_gather_92 f_X6_15 rfl (by assumption) (by assumption) ?_
            refine r_iload_n K dX6_gather_95 rfl ?_
            refine r_iald K dX6_gather_96 (by assumption) (by omega) (by omega) ?_
            rw [Int.toNat_natCast, jb]
            refine rcV4i K dX6_gather_97 c_X6_62 v_X3_append (by assumption) (k_X3_append (T := T) (L := L) (P := P) (I := J) (hn := hn) ha p0 p1 p2 p3 t0 t1 t2 t3 l0 l1 l2 l3 (by first | exact Or.inl rfl | exact Or.inr (Or.inl rfl)) (by omega) (by omega) (by omega) (by omega) (by omega) (by omega)) (by decide) (Nat.le_of_ble_eq_true rfl) ?_
            rintro _ J1 ⟨rfl, hJ1⟩
            rw [h4, Int.toNat_natCast] at hJ1
            refine fin hpi hin J1 ?_
            rw [hJ1, em]
          · have em : mch (I tp) (I tb) n i = (0, (mch (I tp) (I tb) n i).2.1, I tp i, I tb i) := by rw [mch, if_neg c53, if_pos c75]
            refine r_iconst K dX6_gather_78 ?_
            refine r_goto K 83 dX6_gather_79 (by decide) ?_
            refine r_iload K dX6_gather_83 rfl ?_
            refine r_aload_n K dX6_gather_85 rfl ?_
            refine r_getR K dX6_gather_86 f_X6_9 rfl (by assumption) (by assumption) ?_
            refine r_iload_n K dX6_gather_89 rfl ?_
            refine r_iald K dX6_gather_90 (by assumption) (by omega) (by omega) ?_
            rw [Int.toNat_natCast, jp]
            refine r_aload_n K dX6_gather_91 rfl ?_
            refine r_getR K dX6_gather_92 f_X6_15 rfl (by assumption) (by assumption) ?_
            refine r_iload_n K dX6_gather_95 rfl ?_
            refine r_iald K dX6_gather_96 (by assumption) (by omega) (by omega) ?_
            rw [Int.toNat_natCast, jb]
            refine rcV4i K dX6_gather_97 c_X6_62 v_X3_append (by assumption) (k_X3_append (T := T) (L := L) (P := P) (I := J) (hn := hn) ha p0 p1 p2 p3 t0 t1 t2 t3 l0 l1 l2 l3 (by first | exact Or.inl rfl | exact Or.inr (Or.inl rfl)) (by omega) (by omega) (by omega) (by omega) (by omega) (by omega)) (by decide) (Nat.le_of_ble_eq_true rfl) ?_
            rintro _ J1 ⟨rfl, hJ1⟩
            rw [h4, Int.toNat_natCast] at hJ1
            refine fin hpi hin J1 ?_
            rw [hJ1, em]
        · have em : mch (I tp) (I tb) n i = (2, (mch (I tp) (I tb) n i).2.1, (i : Int), 0) := by rw [mch, if_pos c53]
          refine r_aload_n K dX6_gather_56 rfl ?_
          refine r_iconst K dX6_gather_57 ?_
          refine r_iload K dX6_gather_58 rfl ?_
          refine r_iload_n K dX6_gather_60 rfl ?_
          refine r_iconst K dX6_gather_61 ?_
          refine rcV4i K dX6_gather_62 c_X6_62 v_X3_append (by assumption) (k_X3_append (T := T) (L := L) (P := P) (I := J) (hn := hn) ha p0 p1 p2 p3 t0 t1 t2 t3 l0 l1 l2 l3 (Or.inr (Or.inr rfl)) (by omega) (by omega) (by omega) (by omega) (by omega) (by omega)) (by decide) (Nat.le_of_ble_eq_true rfl) ?_
          rintro _ J1 ⟨rfl, hJ1⟩
          rw [h4, Int.toNat_natCast] at hJ1
          refine r_goto K 100 dX6_gather_65 (by decide) ?_
          refine fin hpi hin J1 ?_
          rw [hJ1, em]
      refine r_iload_n K dX6_gather_8 rfl ?_
      refine r_aload_n K dX6_gather_9 rfl ?_
      refine r_getI K dX6_gather_10 f_X6_22 rfl (by assumption) ?_
      rw [jt, hc]
      refine r_icmp_ge K 111 dX6_gather_13 (by decide) (fun c13 => ?_) (fun c13 => ?_)
      · exact q_vret K hQ rfl dX6_gather_111 (Nat.le_refl _) (Nat.le_refl _) ⟨rfl, rfl, rfl, rfl, rfl, hfr, k, by omega, fun q hq => (harr q hq).1, h4, h5, fun q hq => (harr q hq).2⟩
      · refine r_iload_n K dX6_gather_16 rfl ?_
        refine r_iload_n K dX6_gather_17 rfl ?_
        refine r_icmp_ne K 105 dX6_gather_18 (by decide) (fun c18 => ?_) (fun c18 => ?_)
        · refine r_iinc K dX6_gather_105 (by decide) rfl ?_
          refine r_goto K 8 dX6_gather_108 (by decide) ?_
          exact ih _ (by omega) (i + 1) k _ _ _ J (by omega) rfl rfl (by omega) (by omega) hkn hkk h4 h5 h50 h51 hfr harr
        · have hpi : mpos (I tp) (I tb) n k = i := by omega
          have hin : i < n := by omega
          refine r_aload_n K dX6_gather_21 rfl ?_
          refine r_getR K dX6_gather_22 f_X6_9 rfl (by assumption) (by assumption) ?_
          refine r_iload_n K dX6_gather_25 rfl ?_
          refine r_iald K dX6_gather_26 (by assumption) (by omega) (by omega) ?_
          rw [Int.toNat_natCast, jp]
          refine r_iconst K dX6_gather_27 ?_
          refine r_icmp_ne K 39 dX6_gather_28 (by decide) (fun c28 => ?_) (fun c28 => ?_)
          · have em : ((lng (cAl (I tp) (I tb) n i) 120 1 : Nat) : Int) = (mch (I tp) (I tb) n i).2.1 := by rw [mch, if_neg c28]
            refine r_aload_n K dX6_gather_39 rfl ?_
            refine r_iload_n K dX6_gather_40 rfl ?_
            refine rcV1p K dX6_gather_41 c_X6_59 v_X6_alikeFrom (by assumption) (hal hin (fun x hx => by have := hs x hx; omega)) (by decide) (Nat.le_of_ble_eq_true rfl) ?_
            rw [em]
            exact j44 hpi hin _
          · have em : ((lng (cAd (I tp) n i) 120 1 : Nat) : Int) = (mch (I tp) (I tb) n i).2.1 := by rw [mch, if_pos c28]
            refine r_aload_n K dX6_gather_31 rfl ?_
            refine r_iload_n K dX6_gather_32 rfl ?_
            refine rcV1p K dX6_gather_33 c_X6_56 v_X6_addedFrom (by assumption) (had hin) (by decide) (Nat.le_of_ble_eq_true rfl) ?_
            refine r_goto K 44 dX6_gather_36 (by decide) ?_
            rw [em]
            exact j44 hpi hin _
  refine r_aload_n K dX6_gather_0 rfl ?_
  refine rcV0i K dX6_gather_1 c_X6_53 v_X3_clear (by assumption) (k_X3_clear (T := T) (L := L) (P := P) (I := I) (hn := hn) ha) (by decide) (Nat.le_of_ble_eq_true rfl) ?_
  rintro _ J1 ⟨rfl, hJ1⟩
  refine r_iconst K dX6_gather_4 ?_
  refine r_istore_n K dX6_gather_5 (by decide) ?_
  refine r_iconst K dX6_gather_6 ?_
  refine r_istore_n K dX6_gather_7 (by decide) ?_
  refine loop _ 0 0 0 0 _ J1 rfl rfl rfl (by omega) (by omega) (by simp [mpos]) (by omega) ?_ ?_ ?_ ?_ (fun b b1 b2 b3 b4 b5 => ?_) (fun q hq => absurd hq (by omega))
  · rw [hJ1, mI_nj (by decide), mI_eq]; rfl
  · rw [hJ1, mI_eq]; rfl
  · rw [hJ1, mI_eq]; decide
  · rw [hJ1, mI_eq]; decide
  · rw [hJ1, mI_ne b1, mI_ne b1]
end GAT
end
section
section DEV
variable {T L : Nat → Nat} {P : Nat → Nat → Option Nat} {I : Nat → Nat → Int} {hn : Nat}
def oldB (I : Nat → Nat → Int) (p : Int) : Int := if p < 0 ∨ 120 ≤ p then 0 else if I 47 p.toNat ≠ 0 then I 49 p.toNat else I 43 p.toNat
def newQ (I : Nat → Nat → Int) (k : Int) : Int := if I 41 5 = 0 then k else I 44 3 - 1 - k
def dAll (I : Nat → Nat → Int) : Int := I 41 4 + 1 + 2 * I 44 3 + 1
/-- what the device's next write does, but for its count -/
def dW0 (I : Nat → Nat → Int) : Nat → Nat → Int :=
  if I 41 6 - I 41 4 < 0 then mI I 49 (I 48 (I 41 6).toNat).toNat (I 43 (I 48 (I 41 6).toNat).toNat)
  else if dAll I ≤ I 41 6 + 1 then mI (mI (mI I 42 1 (I 44 3)) 41 9 0) 41 10 0
  else if (I 41 6 - I 41 4) % 2 = 0 then mI I 41 7 ((I 41 6 - I 41 4) / 2)
  else mI I 43 (newQ I ((I 41 6 - I 41 4) / 2)).toNat ((oldB I (I 45 (newQ I ((I 41 6 - I 41 4) / 2)).toNat) + I 46 (newQ I ((I 41 6 - I 41 4) / 2)).toNat) % 256)
def dW (I : Nat → Nat → Int) : Nat → Nat → Int := mI (dW0 I) 41 6 (I 41 6 + 1)
/-- what holds while an update is begun -/
def DB (I : Nat → Nat → Int) : Prop := (0 ≤ I 41 4 ∧ I 41 4 ≤ 120) ∧ (0 ≤ I 41 6 ∧ I 41 6 < dAll I) ∧ (0 ≤ I 44 3 ∧ I 44 3 ≤ 120) ∧ (∀ k : Nat, (k : Int) < I 41 4 → 0 ≤ I 48 k ∧ I 48 k < 120) ∧ (∀ x : Nat, (x : Int) < I 44 3 → (-1 ≤ I 45 x ∧ I 45 x < 120) ∧ 0 ≤ I 46 x ∧ I 46 x < 256) ∧ (∀ j, j < 120 → (0 ≤ I 43 j ∧ I 43 j < 256) ∧ 0 ≤ I 49 j ∧ I 49 j < 256) ∧ (I 41 5 = 0 ∨ I 41 5 = 1)

set_option maxHeartbeats 4000000 in
set_option maxRecDepth 100000 in
theorem k_endUpdate (hW : Wd T L P) : iX1_endUpdate [.inr (some 41)] T L P I hn (fun r J => r = none ∧ J = mI (mI I 41 9 0) 41 10 0) := by
  refine CT.by (by decide) (Nat.le_of_ble_eq_true rfl) fun X Y Q hQ K hv => ?_
  refine r_aload_n K dX1_endUpdate_0 rfl ?_
  refine r_iconst K dX1_endUpdate_1 ?_
  refine r_putI K dX1_endUpdate_2 f_X1_73 rfl rfl (Or.inr ⟨rfl, by first | exact Or.inl rfl | exact Or.inr rfl⟩) (by first | assumption | exact hW.1 _ _ rfl | exact hW.2.2.1 _ _ _ rfl) ?_
  refine r_aload_n K dX1_endUpdate_5 rfl ?_
  refine r_iconst K dX1_endUpdate_6 ?_
  refine r_putI K dX1_endUpdate_7 f_X1_77 rfl rfl (Or.inr ⟨rfl, by first | exact Or.inl rfl | exact Or.inr rfl⟩) (by first | assumption | exact hW.1 _ _ rfl | exact hW.2.2.1 _ _ _ rfl) ?_
  exact q_vret K hQ rfl dX1_endUpdate_10 (Nat.le_refl _) (Nat.le_refl _) (⟨rfl, rfl, rfl, rfl, rfl, rfl⟩)
set_option maxHeartbeats 4000000 in
set_option maxRecDepth 100000 in
theorem k_X1_allWrites (hW : Wd T L P) (h1 : 0 ≤ I 41 4 ∧ I 41 4 ≤ 1000) (h2 : 0 ≤ I 44 3 ∧ I 44 3 ≤ 1000) : pX1_allWrites [.inr (some 41)] T L P I hn (.inl (dAll I)) := by
  refine CT.by (by decide) (Nat.le_of_ble_eq_true rfl) fun X Y Q hQ K hv => ?_
  refine r_aload_n K dX1_allWrites_0 rfl ?_
  refine r_getI K dX1_allWrites_1 f_X1_60 rfl (by first | assumption | exact hW.1 _ _ rfl | exact hW.2.2.1 _ _ _ rfl) ?_
  refine r_iconst K dX1_allWrites_4 ?_
  refine r_iadd K dX1_allWrites_5 ?_
  refine r_iconst K dX1_allWrites_6 ?_
  refine r_aload_n K dX1_allWrites_7 rfl ?_
  refine r_getR K dX1_allWrites_8 f_X1_23 rfl (by first | assumption | exact hW.1 _ _ rfl | exact hW.2.2.1 _ _ _ rfl) (by first | assumption | exact hW.1 _ _ rfl | exact hW.2.2.1 _ _ _ rfl) ?_
  refine r_getI K dX1_allWrites_11 f_X1_80 rfl (by first | assumption | exact hW.1 _ _ rfl | exact hW.2.2.1 _ _ _ rfl) ?_
  refine r_imul K dX1_allWrites_14 ?_
  refine r_iadd K dX1_allWrites_15 ?_
  refine r_iconst K dX1_allWrites_16 ?_
  refine r_iadd K dX1_allWrites_17 ?_
  exact q_iret K hQ rfl dX1_allWrites_18 (Nat.le_refl _) (Nat.le_refl _) (⟨rfl, rfl, rfl, rfl, rfl, rfl⟩)
set_option maxHeartbeats 4000000 in
set_option maxRecDepth 100000 in
theorem k_writesLeft (hW : Wd T L P) (h1 : 0 ≤ I 41 4 ∧ I 41 4 ≤ 1000) (h2 : 0 ≤ I 44 3 ∧ I 44 3 ≤ 1000) (h3 : 0 ≤ I 41 6 ∧ I 41 6 ≤ 100000) : pX1_writesLeft [.inr (some 41)] T L P I hn (.inl (if I 41 9 ≠ 0 then dAll I - I 41 6 else 0)) := by
  refine CT.by (by decide) (Nat.le_of_ble_eq_true rfl) fun X Y Q hQ K hv => ?_
  have hd : 0 ≤ dAll I ∧ dAll I ≤ 10000 := by unfold dAll; omega
  refine r_aload_n K dX1_writesLeft_0 rfl ?_
  refine r_getI K dX1_writesLeft_1 f_X1_73 rfl (by first | assumption | exact hW.1 _ _ rfl | exact hW.2.2.1 _ _ _ rfl) ?_
  refine r_if_eq K 19 dX1_writesLeft_4 (by decide) (fun c4 => ?_) (fun c4 => ?_)
  · refine r_iconst K dX1_writesLeft_19 ?_
    exact q_iret K hQ rfl dX1_writesLeft_20 (Nat.le_refl _) (Nat.le_refl _) (⟨by first | rw [if_pos (by omega)] | rw [if_neg (by omega)], rfl, rfl, rfl, rfl, rfl⟩)
  · refine r_aload_n K dX1_writesLeft_7 rfl ?_
    refine rcV0p K dX1_writesLeft_8 c_X1_81 v_X1_allWrites (by first | assumption | exact hW.1 _ _ rfl | exact hW.2.2.1 _ _ _ rfl) (k_X1_allWrites hW h1 h2) (by decide) (Nat.le_of_ble_eq_true rfl) ?_
    refine r_aload_n K dX1_writesLeft_11 rfl ?_
    refine r_getI K dX1_writesLeft_12 f_X1_67 rfl (by first | assumption | exact hW.1 _ _ rfl | exact hW.2.2.1 _ _ _ rfl) ?_
    refine r_isub K dX1_writesLeft_15 ?_
    refine r_goto K 20 dX1_writesLeft_16 (by decide) ?_
    exact q_iret K hQ rfl dX1_writesLeft_20 (Nat.le_refl _) (Nat.le_refl _) (⟨by first | rw [if_pos (by omega)] | rw [if_neg (by omega)], rfl, rfl, rfl, rfl, rfl⟩)
set_option maxHeartbeats 4000000 in
set_option maxRecDepth 100000 in
theorem k_oldByte {p : Int} (hW : Wd T L P) : pX1_oldByte [.inr (some 41), .inl p] T L P I hn (.inl (oldB I p)) := by
  refine CT.by (by decide) (Nat.le_of_ble_eq_true rfl) fun X Y Q hQ K hv => ?_
  have l43 : L 43 = 120 := hW.2.1 43 120 rfl (by decide)
  have l45 : L 45 = 120 := hW.2.1 45 120 rfl (by decide)
  have l46 : L 46 = 120 := hW.2.1 46 120 rfl (by decide)
  have l47 : L 47 = 120 := hW.2.1 47 120 rfl (by decide)
  have l48 : L 48 = 120 := hW.2.1 48 120 rfl (by decide)
  have l49 : L 49 = 120 := hW.2.1 49 120 rfl (by decide)
  have hk := k_isKept (T := T) (L := L) (P := P) (I := I) (hn := hn) (t := 44) (tp := 45) (tb := 46) (tk := 47) (p := p) (hW.1 _ _ rfl) (hW.2.2.1 _ _ _ rfl) (hW.2.2.1 _ _ _ rfl) (hW.2.2.1 _ _ _ rfl) (hW.1 _ _ rfl) (hW.1 _ _ rfl) (hW.1 _ _ rfl) l45 l46 l47
  refine r_iload_n K dX1_oldByte_0 rfl ?_
  refine r_if_lt K 10 dX1_oldByte_1 (by decide) (fun c1 => ?_) (fun c1 => ?_)
  · refine r_iconst K dX1_oldByte_10 ?_
    exact q_iret K hQ rfl dX1_oldByte_11 (Nat.le_refl _) (Nat.le_refl _) (⟨by rw [oldB, if_pos (by omega)], rfl, rfl, rfl, rfl, rfl⟩)
  · refine r_iload_n K dX1_oldByte_4 rfl ?_
    refine r_bipush K dX1_oldByte_5 ?_
    refine r_icmp_lt K 12 dX1_oldByte_7 (by decide) (fun c7 => ?_) (fun c7 => ?_)
    · refine r_aload_n K dX1_oldByte_12 rfl ?_
      refine r_getR K dX1_oldByte_13 f_X1_23 rfl (by first | assumption | exact hW.1 _ _ rfl | exact hW.2.2.1 _ _ _ rfl) (by first | assumption | exact hW.1 _ _ rfl | exact hW.2.2.1 _ _ _ rfl) ?_
      refine r_iload_n K dX1_oldByte_16 rfl ?_
      refine rcV1p K dX1_oldByte_17 c_X1_63 v_X6_isKept (by first | assumption | exact hW.1 _ _ rfl | exact hW.2.2.1 _ _ _ rfl) hk (by decide) (Nat.le_of_ble_eq_true rfl) ?_
      refine r_if_eq K 32 dX1_oldByte_20 (by decide) (fun c20 => ?_) (fun c20 => ?_)
      · have hkk : ¬ I 47 p.toNat ≠ 0 := fun h => by rw [if_pos ⟨by omega, by omega, h⟩] at c20; exact absurd c20 (by decide)
        refine r_aload_n K dX1_oldByte_32 rfl ?_
        refine r_getR K dX1_oldByte_33 f_X1_14 rfl (by first | assumption | exact hW.1 _ _ rfl | exact hW.2.2.1 _ _ _ rfl) (by first | assumption | exact hW.1 _ _ rfl | exact hW.2.2.1 _ _ _ rfl) ?_
        refine r_getR K dX1_oldByte_36 f_X1_90 rfl (by first | assumption | exact hW.1 _ _ rfl | exact hW.2.2.1 _ _ _ rfl) (by first | assumption | exact hW.1 _ _ rfl | exact hW.2.2.1 _ _ _ rfl) ?_
        refine r_iload_n K dX1_oldByte_39 rfl ?_
        refine r_iald K dX1_oldByte_40 (by first | assumption | exact hW.1 _ _ rfl | exact hW.2.2.1 _ _ _ rfl) (by omega) (by omega) ?_
        exact q_iret K hQ rfl dX1_oldByte_41 (Nat.le_refl _) (Nat.le_refl _) (⟨by rw [oldB, if_neg (by omega)]; first | rw [if_pos hkk] | rw [if_neg hkk], rfl, rfl, rfl, rfl, rfl⟩)
      · have hkk : I 47 p.toNat ≠ 0 := fun h => by rw [if_neg (by omega)] at c20; exact absurd rfl c20
        refine r_aload_n K dX1_oldByte_23 rfl ?_
        refine r_getR K dX1_oldByte_24 f_X1_31 rfl (by first | assumption | exact hW.1 _ _ rfl | exact hW.2.2.1 _ _ _ rfl) (by first | assumption | exact hW.1 _ _ rfl | exact hW.2.2.1 _ _ _ rfl) ?_
        refine r_iload_n K dX1_oldByte_27 rfl ?_
        refine r_iald K dX1_oldByte_28 (by first | assumption | exact hW.1 _ _ rfl | exact hW.2.2.1 _ _ _ rfl) (by omega) (by omega) ?_
        refine r_goto K 41 dX1_oldByte_29 (by decide) ?_
        exact q_iret K hQ rfl dX1_oldByte_41 (Nat.le_refl _) (Nat.le_refl _) (⟨by rw [oldB, if_neg (by omega)]; first | rw [if_pos hkk] | rw [if_neg hkk], rfl, rfl, rfl, rfl, rfl⟩)
    · refine r_iconst K dX1_oldByte_10 ?_
      exact q_iret K hQ rfl dX1_oldByte_11 (Nat.le_refl _) (Nat.le_refl _) (⟨by rw [oldB, if_pos (by omega)], rfl, rfl, rfl, rfl, rfl⟩)
set_option maxHeartbeats 4000000 in
set_option maxRecDepth 100000 in
theorem k_writeNewByte {k : Int} (hW : Wd T L P) (hD : DB I) (h1 : 0 ≤ k) (h2 : k < I 44 3) : iX1_writeNewByte [.inr (some 41), .inl k] T L P I hn (fun r J => r = none ∧ J = mI I 43 (newQ I k).toNat ((oldB I (I 45 (newQ I k).toNat) + I 46 (newQ I k).toNat) % 256)) := by
  refine CT.by (by decide) (Nat.le_of_ble_eq_true rfl) fun X Y Q hQ K hv => ?_
  have l43 : L 43 = 120 := hW.2.1 43 120 rfl (by decide)
  have l45 : L 45 = 120 := hW.2.1 45 120 rfl (by decide)
  have l46 : L 46 = 120 := hW.2.1 46 120 rfl (by decide)
  have l47 : L 47 = 120 := hW.2.1 47 120 rfl (by decide)
  have l48 : L 48 = 120 := hW.2.1 48 120 rfl (by decide)
  have l49 : L 49 = 120 := hW.2.1 49 120 rfl (by decide)
  obtain ⟨b1, b2, b3, b4, b5, b6, b7⟩ := hD
  have hq : 0 ≤ newQ I k ∧ newQ I k < I 44 3 := by unfold newQ; split <;> omega
  have b5q := b5 (newQ I k).toNat (by omega)
  have hob : 0 ≤ oldB I (I 45 (newQ I k).toNat) ∧ oldB I (I 45 (newQ I k).toNat) < 256 := by
    unfold oldB
    split
    · exact ⟨by omega, by omega⟩
    · have := b6 (I 45 (newQ I k).toNat).toNat (by omega)
      split
      · exact this.2
      · exact this.1
  have j22 : RR X Y Q 0 0 22 (ls0 [.inr (some 41), .inl k] 3) [.inl (newQ I k)] T L P I hn := by
    refine r_istore_n K dX1_writeNewByte_22 (by decide) ?_
    refine r_iload_n K dX1_writeNewByte_23 rfl ?_
    refine r_if_lt K 38 dX1_writeNewByte_24 (by decide) (fun c24 => ?_) (fun c24 => ?_)
    · exact absurd c24 (by omega)
    · refine r_iload_n K dX1_writeNewByte_27 rfl ?_
      refine r_aload_n K dX1_writeNewByte_28 rfl ?_
      refine r_getR K dX1_writeNewByte_29 f_X1_23 rfl (by first | assumption | exact hW.1 _ _ rfl | exact hW.2.2.1 _ _ _ rfl) (by first | assumption | exact hW.1 _ _ rfl | exact hW.2.2.1 _ _ _ rfl) ?_
      refine r_getI K dX1_writeNewByte_32 f_X1_80 rfl (by first | assumption | exact hW.1 _ _ rfl | exact hW.2.2.1 _ _ _ rfl) ?_
      refine r_icmp_lt K 39 dX1_writeNewByte_35 (by decide) (fun c35 => ?_) (fun c35 => ?_)
      · refine r_aload_n K dX1_writeNewByte_39 rfl ?_
        refine r_getR K dX1_writeNewByte_40 f_X1_14 rfl (by first | assumption | exact hW.1 _ _ rfl | exact hW.2.2.1 _ _ _ rfl) (by first | assumption | exact hW.1 _ _ rfl | exact hW.2.2.1 _ _ _ rfl) ?_
        refine r_getR K dX1_writeNewByte_43 f_X1_90 rfl (by first | assumption | exact hW.1 _ _ rfl | exact hW.2.2.1 _ _ _ rfl) (by first | assumption | exact hW.1 _ _ rfl | exact hW.2.2.1 _ _ _ rfl) ?_
        refine r_iload_n K dX1_writeNewByte_46 rfl ?_
        refine r_aload_n K dX1_writeNewByte_47 rfl ?_
        refine r_aload_n K dX1_writeNewByte_48 rfl ?_
        refine r_getR K dX1_writeNewByte_49 f_X1_23 rfl (by first | assumption | exact hW.1 _ _ rfl | exact hW.2.2.1 _ _ _ rfl) (by first | assumption | exact hW.1 _ _ rfl | exact hW.2.2.1 _ _ _ rfl) ?_
        refine r_getR K dX1_writeNewByte_52 f_X1_96 rfl (by first | assumption | exact hW.1 _ _ rfl | exact hW.2.2.1 _ _ _ rfl) (by first | assumption | exact hW.1 _ _ rfl | exact hW.2.2.1 _ _ _ rfl) ?_
        refine r_iload_n K dX1_writeNewByte_55 rfl ?_
        refine r_iald K dX1_writeNewByte_56 (by first | assumption | exact hW.1 _ _ rfl | exact hW.2.2.1 _ _ _ rfl) (by omega) (by omega) ?_
        refine rcV1p K dX1_writeNewByte_57 c_X1_99 v_X1_oldByte (by first | assumption | exact hW.1 _ _ rfl | exact hW.2.2.1 _ _ _ rfl) (k_oldByte hW) (by decide) (Nat.le_of_ble_eq_true rfl) ?_
        refine r_aload_n K dX1_writeNewByte_60 rfl ?_
        refine r_getR K dX1_writeNewByte_61 f_X1_23 rfl (by first | assumption | exact hW.1 _ _ rfl | exact hW.2.2.1 _ _ _ rfl) (by first | assumption | exact hW.1 _ _ rfl | exact hW.2.2.1 _ _ _ rfl) ?_
        refine r_getR K dX1_writeNewByte_64 f_X1_102 rfl (by first | assumption | exact hW.1 _ _ rfl | exact hW.2.2.1 _ _ _ rfl) (by first | assumption | exact hW.1 _ _ rfl | exact hW.2.2.1 _ _ _ rfl) ?_
        refine r_iload_n K dX1_writeNewByte_67 rfl ?_
        refine r_iald K dX1_writeNewByte_68 (by first | assumption | exact hW.1 _ _ rfl | exact hW.2.2.1 _ _ _ rfl) (by omega) (by omega) ?_
        refine r_iadd K dX1_writeNewByte_69 ?_
        refine r_sipush K dX1_writeNewByte_70 ?_
        refine r_iand K dX1_writeNewByte_73 ?_
        rw [zAnd_255 (show rg _ from ⟨by omega, by omega⟩)]
        refine r_iast K dX1_writeNewByte_74 (by first | assumption | exact hW.1 _ _ rfl | exact hW.2.2.1 _ _ _ rfl) (by omega) (by omega) ?_
        exact q_vret K hQ rfl dX1_writeNewByte_75 (Nat.le_refl _) (Nat.le_refl _) (⟨rfl, rfl, rfl, rfl, rfl, rfl⟩)
      · exact absurd c35 (by omega)
  refine r_aload_n K dX1_writeNewByte_0 rfl ?_
  refine r_getI K dX1_writeNewByte_1 f_X1_57 rfl (by first | assumption | exact hW.1 _ _ rfl | exact hW.2.2.1 _ _ _ rfl) ?_
  refine r_if_ne K 11 dX1_writeNewByte_4 (by decide) (fun c4 => ?_) (fun c4 => ?_)
  · refine r_aload_n K dX1_writeNewByte_11 rfl ?_
    refine r_getR K dX1_writeNewByte_12 f_X1_23 rfl (by first | assumption | exact hW.1 _ _ rfl | exact hW.2.2.1 _ _ _ rfl) (by first | assumption | exact hW.1 _ _ rfl | exact hW.2.2.1 _ _ _ rfl) ?_
    refine r_getI K dX1_writeNewByte_15 f_X1_80 rfl (by first | assumption | exact hW.1 _ _ rfl | exact hW.2.2.1 _ _ _ rfl) ?_
    refine r_iconst K dX1_writeNewByte_18 ?_
    refine r_isub K dX1_writeNewByte_19 ?_
    refine r_iload_n K dX1_writeNewByte_20 rfl ?_
    refine r_isub K dX1_writeNewByte_21 ?_
    first
      | (have e : newQ I k = k := by rw [newQ, if_pos c4]
         rw [e] at j22
         exact j22)
      | (have e : newQ I k = I 44 3 - 1 - k := by rw [newQ, if_neg c4]
         rw [e] at j22
         exact j22)
  · refine r_iload_n K dX1_writeNewByte_7 rfl ?_
    refine r_goto K 22 dX1_writeNewByte_8 (by decide) ?_
    first
      | (have e : newQ I k = k := by rw [newQ, if_pos c4]
         rw [e] at j22
         exact j22)
      | (have e : newQ I k = I 44 3 - 1 - k := by rw [newQ, if_neg c4]
         rw [e] at j22
         exact j22)
set_option maxHeartbeats 4000000 in
set_option maxRecDepth 100000 in
theorem k_makeNextWrite (hW : Wd T L P) (hD : DB I) : iX1_makeNextWrite [.inr (some 41)] T L P I hn (fun r J => r = none ∧ J = dW I) := by
  refine CT.by (by decide) (Nat.le_of_ble_eq_true rfl) fun X Y Q hQ K hv => ?_
  have l43 : L 43 = 120 := hW.2.1 43 120 rfl (by decide)
  have l45 : L 45 = 120 := hW.2.1 45 120 rfl (by decide)
  have l46 : L 46 = 120 := hW.2.1 46 120 rfl (by decide)
  have l47 : L 47 = 120 := hW.2.1 47 120 rfl (by decide)
  have l48 : L 48 = 120 := hW.2.1 48 120 rfl (by decide)
  have l49 : L 49 = 120 := hW.2.1 49 120 rfl (by decide)
  have hD0 := hD
  obtain ⟨b1, b2, b3, b4, b5, b6, b7⟩ := hD
  have hall : dAll I = I 41 4 + 1 + 2 * I 44 3 + 1 := rfl
  have j99 : ∀ (J : Nat → Nat → Int) (g1 g2 : Option PV), J = dW0 I → J 41 6 = I 41 6 → RR X Y Q 0 0 99 [some (.inr (some 41)), g1, g2] [] T L P J hn := by
    intro J g1 g2 hJ h6
    refine r_aload_n K dX1_makeNextWrite_99 rfl ?_
    refine r_dup K dX1_makeNextWrite_100 ?_
    refine r_getI K dX1_makeNextWrite_101 f_X1_67 rfl (by first | assumption | exact hW.1 _ _ rfl | exact hW.2.2.1 _ _ _ rfl) ?_
    rw [h6]
    refine r_iconst K dX1_makeNextWrite_104 ?_
    refine r_iadd K dX1_makeNextWrite_105 ?_
    refine r_putI K dX1_makeNextWrite_106 f_X1_67 rfl rfl (Or.inl rfl) (by first | assumption | exact hW.1 _ _ rfl | exact hW.2.2.1 _ _ _ rfl) ?_
    exact q_vret K hQ rfl dX1_makeNextWrite_109 (Nat.le_refl _) (Nat.le_refl _) (⟨rfl, rfl, rfl, rfl, rfl, by rw [dW, hJ]⟩)
  refine r_aload_n K dX1_makeNextWrite_0 rfl ?_
  refine r_getI K dX1_makeNextWrite_1 f_X1_67 rfl (by first | assumption | exact hW.1 _ _ rfl | exact hW.2.2.1 _ _ _ rfl) ?_
  refine r_aload_n K dX1_makeNextWrite_4 rfl ?_
  refine r_getI K dX1_makeNextWrite_5 f_X1_60 rfl (by first | assumption | exact hW.1 _ _ rfl | exact hW.2.2.1 _ _ _ rfl) ?_
  refine r_isub K dX1_makeNextWrite_8 ?_
  refine r_istore_n K dX1_makeNextWrite_9 (by decide) ?_
  refine r_iload_n K dX1_makeNextWrite_10 rfl ?_
  refine r_if_ge K 42 dX1_makeNextWrite_11 (by decide) (fun c11 => ?_) (fun c11 => ?_)
  · refine r_aload_n K dX1_makeNextWrite_42 rfl ?_
    refine r_getI K dX1_makeNextWrite_43 f_X1_67 rfl (by first | assumption | exact hW.1 _ _ rfl | exact hW.2.2.1 _ _ _ rfl) ?_
    refine r_iconst K dX1_makeNextWrite_46 ?_
    refine r_iadd K dX1_makeNextWrite_47 ?_
    refine r_aload_n K dX1_makeNextWrite_48 rfl ?_
    refine rcV0p K dX1_makeNextWrite_49 c_X1_81 v_X1_allWrites (by first | assumption | exact hW.1 _ _ rfl | exact hW.2.2.1 _ _ _ rfl) (k_X1_allWrites hW (by omega) (by omega)) (by decide) (Nat.le_of_ble_eq_true rfl) ?_
    refine r_icmp_lt K 76 dX1_makeNextWrite_52 (by decide) (fun c52 => ?_) (fun c52 => ?_)
    · refine r_iload_n K dX1_makeNextWrite_76 rfl ?_
      refine r_iconst K dX1_makeNextWrite_77 ?_
      refine r_irem K dX1_makeNextWrite_78 (by omega) (by omega) ?_
      refine r_if_ne K 92 dX1_makeNextWrite_79 (by decide) (fun c79 => ?_) (fun c79 => ?_)
      · refine r_aload_n K dX1_makeNextWrite_92 rfl ?_
        refine r_iload_n K dX1_makeNextWrite_93 rfl ?_
        refine r_iconst K dX1_makeNextWrite_94 ?_
        refine r_idiv K dX1_makeNextWrite_95 (by omega) (by omega) ?_
        refine rcV1i K dX1_makeNextWrite_96 c_X1_93 v_X1_writeNewByte (by first | assumption | exact hW.1 _ _ rfl | exact hW.2.2.1 _ _ _ rfl) (k_writeNewByte hW hD0 (by omega) (by omega)) (by decide) (Nat.le_of_ble_eq_true rfl) ?_
        rintro _ J1 ⟨rfl, hJ1⟩
        first
          | exact j99 _ _ _ (by rw [dW0, if_pos (by omega)]) (by rw [mI_ne (by decide)])
          | exact j99 _ _ _ (by rw [dW0, if_neg (by omega), if_pos (by omega)]; exact hJ1) (by rw [hJ1, mI_nj (by decide), mI_nj (by decide), mI_ne (by decide)])
          | exact j99 _ _ _ (by rw [dW0, if_neg (by omega), if_neg (by omega), if_pos (by omega)]) (mI_nj (by decide))
          | exact j99 _ _ _ (by rw [dW0, if_neg (by omega), if_neg (by omega), if_neg (by omega)]; exact hJ1) (by rw [hJ1, mI_ne (by decide)])
      · refine r_aload_n K dX1_makeNextWrite_82 rfl ?_
        refine r_iload_n K dX1_makeNextWrite_83 rfl ?_
        refine r_iconst K dX1_makeNextWrite_84 ?_
        refine r_idiv K dX1_makeNextWrite_85 (by omega) (by omega) ?_
        refine r_putI K dX1_makeNextWrite_86 f_X1_70 rfl rfl (Or.inl rfl) (by first | assumption | exact hW.1 _ _ rfl | exact hW.2.2.1 _ _ _ rfl) ?_
        refine r_goto K 99 dX1_makeNextWrite_89 (by decide) ?_
        first
          | exact j99 _ _ _ (by rw [dW0, if_pos (by omega)]) (by rw [mI_ne (by decide)])
          | exact j99 _ _ _ (by rw [dW0, if_neg (by omega), if_pos (by omega)]; exact hJ1) (by rw [hJ1, mI_nj (by decide), mI_nj (by decide), mI_ne (by decide)])
          | exact j99 _ _ _ (by rw [dW0, if_neg (by omega), if_neg (by omega), if_pos (by omega)]) (mI_nj (by decide))
          | exact j99 _ _ _ (by rw [dW0, if_neg (by omega), if_neg (by omega), if_neg (by omega)]; exact hJ1) (by rw [hJ1, mI_ne (by decide)])
    · refine r_aload_n K dX1_makeNextWrite_55 rfl ?_
      refine r_getR K dX1_makeNextWrite_56 f_X1_14 rfl (by first | assumption | exact hW.1 _ _ rfl | exact hW.2.2.1 _ _ _ rfl) (by first | assumption | exact hW.1 _ _ rfl | exact hW.2.2.1 _ _ _ rfl) ?_
      refine r_aload_n K dX1_makeNextWrite_59 rfl ?_
      refine r_getR K dX1_makeNextWrite_60 f_X1_23 rfl (by first | assumption | exact hW.1 _ _ rfl | exact hW.2.2.1 _ _ _ rfl) (by first | assumption | exact hW.1 _ _ rfl | exact hW.2.2.1 _ _ _ rfl) ?_
      refine r_getI K dX1_makeNextWrite_63 f_X1_80 rfl (by first | assumption | exact hW.1 _ _ rfl | exact hW.2.2.1 _ _ _ rfl) ?_
      refine r_putI K dX1_makeNextWrite_66 f_X1_34 rfl rfl (Or.inl rfl) (by first | assumption | exact hW.1 _ _ rfl | exact hW.2.2.1 _ _ _ rfl) ?_
      refine r_aload_n K dX1_makeNextWrite_69 rfl ?_
      refine rcV0i K dX1_makeNextWrite_70 c_X1_42 v_X1_endUpdate (by first | assumption | exact hW.1 _ _ rfl | exact hW.2.2.1 _ _ _ rfl) (k_endUpdate hW) (by decide) (Nat.le_of_ble_eq_true rfl) ?_
      rintro _ J1 ⟨rfl, hJ1⟩
      refine r_goto K 99 dX1_makeNextWrite_73 (by decide) ?_
      first
        | exact j99 _ _ _ (by rw [dW0, if_pos (by omega)]) (by rw [mI_ne (by decide)])
        | exact j99 _ _ _ (by rw [dW0, if_neg (by omega), if_pos (by omega)]; exact hJ1) (by rw [hJ1, mI_nj (by decide), mI_nj (by decide), mI_ne (by decide)])
        | exact j99 _ _ _ (by rw [dW0, if_neg (by omega), if_neg (by omega), if_pos (by omega)]) (mI_nj (by decide))
        | exact j99 _ _ _ (by rw [dW0, if_neg (by omega), if_neg (by omega), if_neg (by omega)]; exact hJ1) (by rw [hJ1, mI_ne (by decide)])
  · have b4q := b4 (I 41 6).toNat (by omega)
    refine r_aload_n K dX1_makeNextWrite_14 rfl ?_
    refine r_getR K dX1_makeNextWrite_15 f_X1_27 rfl (by first | assumption | exact hW.1 _ _ rfl | exact hW.2.2.1 _ _ _ rfl) (by first | assumption | exact hW.1 _ _ rfl | exact hW.2.2.1 _ _ _ rfl) ?_
    refine r_aload_n K dX1_makeNextWrite_18 rfl ?_
    refine r_getI K dX1_makeNextWrite_19 f_X1_67 rfl (by first | assumption | exact hW.1 _ _ rfl | exact hW.2.2.1 _ _ _ rfl) ?_
    refine r_iald K dX1_makeNextWrite_22 (by first | assumption | exact hW.1 _ _ rfl | exact hW.2.2.1 _ _ _ rfl) (by omega) (by omega) ?_
    refine r_istore_n K dX1_makeNextWrite_23 (by decide) ?_
    refine r_aload_n K dX1_makeNextWrite_24 rfl ?_
    refine r_getR K dX1_makeNextWrite_25 f_X1_31 rfl (by first | assumption | exact hW.1 _ _ rfl | exact hW.2.2.1 _ _ _ rfl) (by first | assumption | exact hW.1 _ _ rfl | exact hW.2.2.1 _ _ _ rfl) ?_
    refine r_iload_n K dX1_makeNextWrite_28 rfl ?_
    refine r_aload_n K dX1_makeNextWrite_29 rfl ?_
    refine r_getR K dX1_makeNextWrite_30 f_X1_14 rfl (by first | assumption | exact hW.1 _ _ rfl | exact hW.2.2.1 _ _ _ rfl) (by first | assumption | exact hW.1 _ _ rfl | exact hW.2.2.1 _ _ _ rfl) ?_
    refine r_getR K dX1_makeNextWrite_33 f_X1_90 rfl (by first | assumption | exact hW.1 _ _ rfl | exact hW.2.2.1 _ _ _ rfl) (by first | assumption | exact hW.1 _ _ rfl | exact hW.2.2.1 _ _ _ rfl) ?_
    refine r_iload_n K dX1_makeNextWrite_36 rfl ?_
    refine r_iald K dX1_makeNextWrite_37 (by first | assumption | exact hW.1 _ _ rfl | exact hW.2.2.1 _ _ _ rfl) (by omega) (by omega) ?_
    refine r_iast K dX1_makeNextWrite_38 (by first | assumption | exact hW.1 _ _ rfl | exact hW.2.2.1 _ _ _ rfl) (by omega) (by omega) ?_
    refine r_goto K 99 dX1_makeNextWrite_39 (by decide) ?_
    first
      | exact j99 _ _ _ (by rw [dW0, if_pos (by omega)]) (by rw [mI_ne (by decide)])
      | exact j99 _ _ _ (by rw [dW0, if_neg (by omega), if_pos (by omega)]; exact hJ1) (by rw [hJ1, mI_nj (by decide), mI_nj (by decide), mI_ne (by decide)])
      | exact j99 _ _ _ (by rw [dW0, if_neg (by omega), if_neg (by omega), if_pos (by omega)]) (mI_nj (by decide))
      | exact j99 _ _ _ (by rw [dW0, if_neg (by omega), if_neg (by omega), if_neg (by omega)]; exact hJ1) (by rw [hJ1, mI_ne (by decide)])
theorem dAll_keep {I J : Nat → Nat → Int} (h1 : J 41 4 = I 41 4) (h2 : J 44 = I 44) : dAll J = dAll I := by rw [dAll, dAll, h1, h2]
/-- a write keeps what holds, or ends the update -/
theorem DB.next (hD : DB I) : (dW I 41 9 = I 41 9 ∧ DB (dW I)) ∨ (dW I 41 9 = 0 ∧ dW I 41 10 = 0 ∧ dAll I ≤ I 41 6 + 1) := by
  obtain ⟨b1, b2, b3, b4, b5, b6, b7⟩ := hD
  have hall : dAll I = I 41 4 + 1 + 2 * I 44 3 + 1 := rfl
  by_cases c1 : I 41 6 - I 41 4 < 0
  · left
    have e : dW I = mI (mI I 49 (I 48 (I 41 6).toNat).toNat (I 43 (I 48 (I 41 6).toNat).toNat)) 41 6 (I 41 6 + 1) := by rw [dW, dW0, if_pos c1]
    have h48 := b4 (I 41 6).toNat (by omega)
    have g : ∀ c, c ≠ 41 → c ≠ 49 → dW I c = I c := fun c h1 h2 => by rw [e, mI_ne h1, mI_ne h2]
    have g41 : ∀ j, j ≠ 6 → dW I 41 j = I 41 j := fun j hj => by rw [e, mI_nj hj, mI_ne (by decide)]
    refine ⟨g41 9 (by decide), by rw [g41 4 (by decide)]; exact b1, ⟨by rw [e, mI_eq]; omega, ?_⟩, by rw [g 44 (by decide) (by decide)]; exact b3, by rw [g41 4 (by decide), g 48 (by decide) (by decide)]; exact b4, by rw [g 44 (by decide) (by decide), g 45 (by decide) (by decide), g 46 (by decide) (by decide)]; exact b5, fun j hj => ?_, by rw [g41 5 (by decide)]; exact b7⟩
    · rw [dAll_keep (g41 4 (by decide)) (g 44 (by decide) (by decide)), e, mI_eq]; omega
    · rw [g 43 (by decide) (by decide)]
      refine ⟨(b6 j hj).1, ?_⟩
      rw [e, mI_ne (by decide), mI_row]
      split
      · exact (b6 _ (by omega)).1
      · exact (b6 j hj).2
  · by_cases c2 : dAll I ≤ I 41 6 + 1
    · right
      have e : dW I = mI (mI (mI (mI I 42 1 (I 44 3)) 41 9 0) 41 10 0) 41 6 (I 41 6 + 1) := by rw [dW, dW0, if_neg c1, if_pos c2]
      refine ⟨by rw [e, mI_nj (by decide), mI_nj (by decide), mI_eq], by rw [e, mI_nj (by decide), mI_eq], c2⟩
    · left
      by_cases c3 : (I 41 6 - I 41 4) % 2 = 0
      · have e : dW I = mI (mI I 41 7 ((I 41 6 - I 41 4) / 2)) 41 6 (I 41 6 + 1) := by rw [dW, dW0, if_neg c1, if_neg c2, if_pos c3]
        have g : ∀ c, c ≠ 41 → dW I c = I c := fun c h1 => by rw [e, mI_ne h1, mI_ne h1]
        have g41 : ∀ j, j ≠ 6 → j ≠ 7 → dW I 41 j = I 41 j := fun j hj h7 => by rw [e, mI_nj hj, mI_nj h7]
        refine ⟨g41 9 (by decide) (by decide), by rw [g41 4 (by decide) (by decide)]; exact b1, ⟨by rw [e, mI_eq]; omega, ?_⟩, by rw [g 44 (by decide)]; exact b3, by rw [g41 4 (by decide) (by decide), g 48 (by decide)]; exact b4, by rw [g 44 (by decide), g 45 (by decide), g 46 (by decide)]; exact b5, fun j hj => ?_, by rw [g41 5 (by decide) (by decide)]; exact b7⟩
        · rw [dAll_keep (g41 4 (by decide) (by decide)) (g 44 (by decide)), e, mI_eq]; omega
        · rw [g 43 (by decide), g 49 (by decide)]; exact b6 j hj
      · have e : dW I = mI (mI I 43 (newQ I ((I 41 6 - I 41 4) / 2)).toNat ((oldB I (I 45 (newQ I ((I 41 6 - I 41 4) / 2)).toNat) + I 46 (newQ I ((I 41 6 - I 41 4) / 2)).toNat) % 256)) 41 6 (I 41 6 + 1) := by rw [dW, dW0, if_neg c1, if_neg c2, if_neg c3]
        have g : ∀ c, c ≠ 41 → c ≠ 43 → dW I c = I c := fun c h1 h2 => by rw [e, mI_ne h1, mI_ne h2]
        have g41 : ∀ j, j ≠ 6 → dW I 41 j = I 41 j := fun j hj => by rw [e, mI_nj hj, mI_ne (by decide)]
        refine ⟨g41 9 (by decide), by rw [g41 4 (by decide)]; exact b1, ⟨by rw [e, mI_eq]; omega, ?_⟩, by rw [g 44 (by decide) (by decide)]; exact b3, by rw [g41 4 (by decide), g 48 (by decide) (by decide)]; exact b4, by rw [g 44 (by decide) (by decide), g 45 (by decide) (by decide), g 46 (by decide) (by decide)]; exact b5, fun j hj => ?_, by rw [g41 5 (by decide)]; exact b7⟩
        · rw [dAll_keep (g41 4 (by decide)) (g 44 (by decide) (by decide)), e, mI_eq]; omega
        · rw [g 49 (by decide) (by decide)]
          refine ⟨?_, (b6 j hj).2⟩
          rw [e, mI_ne (by decide), mI_row]
          split
          · exact ⟨Int.emod_nonneg _ (by decide), Int.emod_lt_of_pos _ (by decide)⟩
          · exact (b6 j hj).1
/-- k writes, or as many as are left; and how many were made -/
def dIt : Nat → (Nat → Nat → Int) → (Nat → Nat → Int) × Nat
  | 0, I => (I, 0)
  | k + 1, I => if I 41 9 ≠ 0 then ((dIt k (dW I)).1, (dIt k (dW I)).2 + 1) else (I, 0)
theorem dW_8 (I : Nat → Nat → Int) : dW I 41 8 = I 41 8 := by
  unfold dW dW0
  split
  · rw [mI_nj (by decide), mI_ne (by decide)]
  · split
    · rw [mI_nj (by decide), mI_nj (by decide), mI_nj (by decide), mI_ne (by decide)]
    · split
      · rw [mI_nj (by decide), mI_nj (by decide)]
      · rw [mI_nj (by decide), mI_ne (by decide)]
theorem dIt_8 : ∀ (k : Nat) (I : Nat → Nat → Int), (dIt k I).1 41 8 = I 41 8 ∧ (dIt k I).2 ≤ k
  | 0, I => ⟨rfl, Nat.le_refl _⟩
  | k + 1, I => by
    rw [dIt]
    split
    · have := dIt_8 k (dW I)
      exact ⟨this.1.trans (dW_8 I), by simp only; omega⟩
    · exact ⟨rfl, by simp only; omega⟩
set_option maxHeartbeats 4000000 in
set_option maxRecDepth 100000 in
theorem k_makeWrites {n : Nat} (hW : Wd T L P) (hn1 : n ≤ 1000) (hD : I 41 9 ≠ 0 → DB I) (h8 : 0 ≤ I 41 8 ∧ I 41 8 ≤ 1000000000) : iX1_makeWrites [.inr (some 41), .inl (n : Int)] T L P I hn (fun r J => r = some (.inl ((dIt n I).2 : Nat)) ∧ J = mI (dIt n I).1 41 8 (I 41 8 + (dIt n I).2)) := by
  refine CT.by (by decide) (Nat.le_of_ble_eq_true rfl) fun X Y Q hQ K hv => ?_
  have i8 := dIt_8 n I
  have loop : ∀ (d k : Nat) (z : Int) (J : Nat → Nat → Int), z = k → k + d = n → (J 41 9 ≠ 0 → DB J) → (dIt d J).1 = (dIt n I).1 → k + (dIt d J).2 = (dIt n I).2 → RR X Y Q 0 0 2 [some (.inr (some 41)), some (.inl (n : Int)), some (.inl z)] [] T L P J hn := by
    intro d
    induction d with
    | zero =>
      intro k z J hz hk hDJ e1 e2
      subst hz
      have e1 : J = (dIt n I).1 := e1
      have e2 : k = (dIt n I).2 := e2
      refine r_iload_n K dX1_makeWrites_2 rfl ?_
      refine r_iload_n K dX1_makeWrites_3 rfl ?_
      refine r_icmp_ge K 24 dX1_makeWrites_4 (by decide) (fun c4 => ?_) (fun c4 => ?_)
      · refine r_aload_n K dX1_makeWrites_24 rfl ?_
        refine r_dup K dX1_makeWrites_25 ?_
        refine r_getI K dX1_makeWrites_26 f_X1_87 rfl (by first | assumption | exact hW.1 _ _ rfl | exact hW.2.2.1 _ _ _ rfl) ?_
        rw [e1, i8.1]
        refine r_iload_n K dX1_makeWrites_29 rfl ?_
        refine r_iadd K dX1_makeWrites_30 ?_
        refine r_putI K dX1_makeWrites_31 f_X1_87 rfl rfl (Or.inl rfl) (by first | assumption | exact hW.1 _ _ rfl | exact hW.2.2.1 _ _ _ rfl) ?_
        refine r_iload_n K dX1_makeWrites_34 rfl ?_
        exact q_iret K hQ rfl dX1_makeWrites_35 (Nat.le_refl _) (Nat.le_refl _) (⟨rfl, rfl, rfl, rfl, by rw [e2], by rw [e2]⟩)
      · exact absurd c4 (by omega)
    | succ d ih =>
      intro k z J hz hk hDJ e1 e2
      subst hz
      rw [dIt] at e1 e2
      refine r_iload_n K dX1_makeWrites_2 rfl ?_
      refine r_iload_n K dX1_makeWrites_3 rfl ?_
      refine r_icmp_ge K 24 dX1_makeWrites_4 (by decide) (fun c4 => ?_) (fun c4 => ?_)
      · exact absurd c4 (by omega)
      · refine r_aload_n K dX1_makeWrites_7 rfl ?_
        refine r_getI K dX1_makeWrites_8 f_X1_73 rfl (by first | assumption | exact hW.1 _ _ rfl | exact hW.2.2.1 _ _ _ rfl) ?_
        refine r_if_eq K 24 dX1_makeWrites_11 (by decide) (fun c11 => ?_) (fun c11 => ?_)
        · rw [if_neg (by omega)] at e1 e2
          have e1 : J = (dIt n I).1 := e1
          have e2 : k = (dIt n I).2 := e2
          refine r_aload_n K dX1_makeWrites_24 rfl ?_
          refine r_dup K dX1_makeWrites_25 ?_
          refine r_getI K dX1_makeWrites_26 f_X1_87 rfl (by first | assumption | exact hW.1 _ _ rfl | exact hW.2.2.1 _ _ _ rfl) ?_
          rw [e1, i8.1]
          refine r_iload_n K dX1_makeWrites_29 rfl ?_
          refine r_iadd K dX1_makeWrites_30 ?_
          refine r_putI K dX1_makeWrites_31 f_X1_87 rfl rfl (Or.inl rfl) (by first | assumption | exact hW.1 _ _ rfl | exact hW.2.2.1 _ _ _ rfl) ?_
          refine r_iload_n K dX1_makeWrites_34 rfl ?_
          exact q_iret K hQ rfl dX1_makeWrites_35 (Nat.le_refl _) (Nat.le_refl _) (⟨rfl, rfl, rfl, rfl, by rw [e2], by rw [e2]⟩)
        · rw [if_pos c11] at e1 e2
          have e1 : (dIt d (dW J)).1 = (dIt n I).1 := e1
          have e2 : k + ((dIt d (dW J)).2 + 1) = (dIt n I).2 := e2
          refine r_aload_n K dX1_makeWrites_14 rfl ?_
          refine rcV0i K dX1_makeWrites_15 c_X1_84 v_X1_makeNextWrite (by first | assumption | exact hW.1 _ _ rfl | exact hW.2.2.1 _ _ _ rfl) (k_makeNextWrite hW (hDJ c11)) (by decide) (Nat.le_of_ble_eq_true rfl) ?_
          rintro _ J1 ⟨rfl, hJ1⟩
          refine r_iinc K dX1_makeWrites_18 (by decide) rfl ?_
          refine r_goto K 2 dX1_makeWrites_21 (by decide) ?_
          subst hJ1
          exact ih (k + 1) _ _ (by omega) (by omega) (fun h => by
            rcases DB.next (hDJ c11) with q | q
            · exact q.2
            · exact absurd q.1 h) e1 (by omega)
  refine r_iconst K dX1_makeWrites_0 ?_
  refine r_istore_n K dX1_makeWrites_1 (by decide) ?_
  exact loop n 0 0 I rfl (by omega) hD rfl (by omega)
set_option maxHeartbeats 4000000 in
set_option maxRecDepth 100000 in
theorem k_resume (hW : Wd T L P) (h1 : 0 ≤ I 41 4 ∧ I 41 4 ≤ 1000) (h2 : -1 ≤ I 41 7 ∧ I 41 7 ≤ 1000) : iX1_resume [.inr (some 41)] T L P I hn (fun r J => r = none ∧ J = mI (mI I 41 10 0) 41 6 (if I 41 7 = -1 then 0 else I 41 4 + 1 + 2 * I 41 7)) := by
  refine CT.by (by decide) (Nat.le_of_ble_eq_true rfl) fun X Y Q hQ K hv => ?_
  refine r_aload_n K dX1_resume_0 rfl ?_
  refine r_iconst K dX1_resume_1 ?_
  refine r_putI K dX1_resume_2 f_X1_77 rfl rfl (Or.inr ⟨rfl, by first | exact Or.inl rfl | exact Or.inr rfl⟩) (by first | assumption | exact hW.1 _ _ rfl | exact hW.2.2.1 _ _ _ rfl) ?_
  refine r_aload_n K dX1_resume_5 rfl ?_
  refine r_aload_n K dX1_resume_6 rfl ?_
  refine r_getI K dX1_resume_7 f_X1_70 rfl (by first | assumption | exact hW.1 _ _ rfl | exact hW.2.2.1 _ _ _ rfl) ?_
  try simp only [mI_row, Nat.reduceEqDiff, if_false]
  refine r_iconst K dX1_resume_10 ?_
  refine r_icmp_ne K 18 dX1_resume_11 (by decide) (fun c11 => ?_) (fun c11 => ?_)
  · refine r_aload_n K dX1_resume_18 rfl ?_
    refine r_getI K dX1_resume_19 f_X1_60 rfl (by first | assumption | exact hW.1 _ _ rfl | exact hW.2.2.1 _ _ _ rfl) ?_
    try simp only [mI_row, Nat.reduceEqDiff, if_false]
    refine r_iconst K dX1_resume_22 ?_
    refine r_iadd K dX1_resume_23 ?_
    refine r_iconst K dX1_resume_24 ?_
    refine r_aload_n K dX1_resume_25 rfl ?_
    refine r_getI K dX1_resume_26 f_X1_70 rfl (by first | assumption | exact hW.1 _ _ rfl | exact hW.2.2.1 _ _ _ rfl) ?_
    try simp only [mI_row, Nat.reduceEqDiff, if_false]
    refine r_imul K dX1_resume_29 ?_
    refine r_iadd K dX1_resume_30 ?_
    refine r_putI K dX1_resume_31 f_X1_67 rfl rfl (Or.inl rfl) (by first | assumption | exact hW.1 _ _ rfl | exact hW.2.2.1 _ _ _ rfl) ?_
    exact q_vret K hQ rfl dX1_resume_34 (Nat.le_refl _) (Nat.le_refl _) (⟨rfl, rfl, rfl, rfl, rfl, by first | rw [if_pos c11] | rw [if_neg c11]⟩)
  · refine r_iconst K dX1_resume_14 ?_
    refine r_goto K 31 dX1_resume_15 (by decide) ?_
    refine r_putI K dX1_resume_31 f_X1_67 rfl rfl (Or.inl rfl) (by first | assumption | exact hW.1 _ _ rfl | exact hW.2.2.1 _ _ _ rfl) ?_
    exact q_vret K hQ rfl dX1_resume_34 (Nat.le_refl _) (Nat.le_refl _) (⟨rfl, rfl, rfl, rfl, rfl, by first | rw [if_pos c11] | rw [if_neg c11]⟩)
set_option maxHeartbeats 4000000 in
set_option maxRecDepth 100000 in
theorem k_areaByte {i : Int} (hW : Wd T L P) : pX1_areaByte [.inr (some 41), .inl i] T L P I hn (.inl (if 0 ≤ i ∧ i < 120 then I 43 i.toNat else -1)) := by
  refine CT.by (by decide) (Nat.le_of_ble_eq_true rfl) fun X Y Q hQ K hv => ?_
  have l43 : L 43 = 120 := hW.2.1 43 120 rfl (by decide)
  have l45 : L 45 = 120 := hW.2.1 45 120 rfl (by decide)
  have l46 : L 46 = 120 := hW.2.1 46 120 rfl (by decide)
  have l47 : L 47 = 120 := hW.2.1 47 120 rfl (by decide)
  have l48 : L 48 = 120 := hW.2.1 48 120 rfl (by decide)
  have l49 : L 49 = 120 := hW.2.1 49 120 rfl (by decide)
  refine r_iload_n K dX1_areaByte_0 rfl ?_
  refine r_if_lt K 22 dX1_areaByte_1 (by decide) (fun c1 => ?_) (fun c1 => ?_)
  · refine r_iconst K dX1_areaByte_22 ?_
    exact q_iret K hQ rfl dX1_areaByte_23 (Nat.le_refl _) (Nat.le_refl _) (⟨by first | rw [if_pos (by omega)] | rw [if_neg (by omega)], rfl, rfl, rfl, rfl, rfl⟩)
  · refine r_iload_n K dX1_areaByte_4 rfl ?_
    refine r_bipush K dX1_areaByte_5 ?_
    refine r_icmp_ge K 22 dX1_areaByte_7 (by decide) (fun c7 => ?_) (fun c7 => ?_)
    · refine r_iconst K dX1_areaByte_22 ?_
      exact q_iret K hQ rfl dX1_areaByte_23 (Nat.le_refl _) (Nat.le_refl _) (⟨by first | rw [if_pos (by omega)] | rw [if_neg (by omega)], rfl, rfl, rfl, rfl, rfl⟩)
    · refine r_aload_n K dX1_areaByte_10 rfl ?_
      refine r_getR K dX1_areaByte_11 f_X1_14 rfl (by first | assumption | exact hW.1 _ _ rfl | exact hW.2.2.1 _ _ _ rfl) (by first | assumption | exact hW.1 _ _ rfl | exact hW.2.2.1 _ _ _ rfl) ?_
      refine r_getR K dX1_areaByte_14 f_X1_90 rfl (by first | assumption | exact hW.1 _ _ rfl | exact hW.2.2.1 _ _ _ rfl) (by first | assumption | exact hW.1 _ _ rfl | exact hW.2.2.1 _ _ _ rfl) ?_
      refine r_iload_n K dX1_areaByte_17 rfl ?_
      refine r_iald K dX1_areaByte_18 (by first | assumption | exact hW.1 _ _ rfl | exact hW.2.2.1 _ _ _ rfl) (by omega) (by omega) ?_
      refine r_goto K 23 dX1_areaByte_19 (by decide) ?_
      exact q_iret K hQ rfl dX1_areaByte_23 (Nat.le_refl _) (Nat.le_refl _) (⟨by first | rw [if_pos (by omega)] | rw [if_neg (by omega)], rfl, rfl, rfl, rfl, rfl⟩)
end DEV
end
section
section DE2
variable {T L : Nat → Nat} {P : Nat → Nat → Option Nat} {I : Nat → Nat → Int} {hn : Nat}
theorem cn_kth {f : Nat → Bool} {k : Int} (h0 : 0 ≤ k) : ∀ {n : Nat}, k < cn f n → ∃ p, p < n ∧ f p = true ∧ cn f p = k
  | 0, h => by rw [cn] at h; omega
  | n + 1, h => by
    rcases Int.lt_or_le k (cn f n) with e | e
    · obtain ⟨p, a, b, c⟩ := cn_kth h0 e
      exact ⟨p, by omega, b, c⟩
    · rw [cn] at h
      cases hf : f n with
      | true => exact ⟨n, by omega, hf, by rw [hf] at h; simp at h; omega⟩
      | false => rw [hf] at h; simp at h; omega
theorem cn_mono (f : Nat → Bool) {a b : Nat} (h : a ≤ b) : cn f a ≤ cn f b := by
  induction b with
  | zero => have : a = 0 := by omega
            subst this; exact Int.le_refl _
  | succ b ih =>
    by_cases e : a = b + 1
    · subst e; exact Int.le_refl _
    · have := ih (by omega)
      rw [cn]
      split <;> omega
theorem cn_lt {f : Nat → Bool} {a b : Nat} (h : a < b) (hf : f a = true) : cn f a < cn f b := by
  have := cn_mono f (a := a + 1) (b := b) h
  rw [cn, hf] at this
  simp at this
  omega

set_option maxHeartbeats 4000000 in
set_option maxRecDepth 100000 in
theorem k_load {v : Nat} (hW : Wd T L P) (hV : VS I) (hv : v < 5) : iX1_load [.inr (some 41), .inr (some (18 + 2 * v))] T L P I hn (fun r J => r = none ∧ J = mI (mI (mI (mR I 43 (fun j => if j < (I (18 + 2 * v) 1).toNat then I (19 + 2 * v) j else if j < 120 then 0 else I 43 j)) 42 1 (I (18 + 2 * v) 1)) 41 9 0) 41 10 0) := by
  refine CT.by (by decide) (Nat.le_of_ble_eq_true rfl) fun X Y Q hQ K hvv => ?_
  have l43 : L 43 = 120 := hW.2.1 43 120 rfl (by decide)
  have l45 : L 45 = 120 := hW.2.1 45 120 rfl (by decide)
  have l46 : L 46 = 120 := hW.2.1 46 120 rfl (by decide)
  have l47 : L 47 = 120 := hW.2.1 47 120 rfl (by decide)
  have l48 : L 48 = 120 := hW.2.1 48 120 rfl (by decide)
  have l49 : L 49 = 120 := hW.2.1 49 120 rfl (by decide)
  obtain ⟨w1, w2, w3, w4, w5⟩ := hW.ver hv
  have hvs := hV v hv
  have htf := k_takeFirst (T := T) (L := L) (P := P) (I := I) (hn := hn) (a := 42) (v := 43) (b := 18 + 2 * v) (w := 19 + 2 * v) (n := I (18 + 2 * v) 1) (hW.1 _ _ rfl) (hW.2.2.1 _ _ _ rfl) (hW.1 _ _ rfl) (by omega) w2 w3 w4 (by omega) (by omega) (by omega) (by omega)
  rw [l43] at htf
  refine r_aload_n K dX1_load_0 rfl ?_
  refine r_getR K dX1_load_1 f_X1_14 rfl (by first | assumption | exact hW.1 _ _ rfl | exact hW.2.2.1 _ _ _ rfl) (by first | assumption | exact hW.1 _ _ rfl | exact hW.2.2.1 _ _ _ rfl) ?_
  refine r_aload_n K dX1_load_4 rfl ?_
  refine r_aload_n K dX1_load_5 rfl ?_
  refine r_getI K dX1_load_6 f_X1_34 rfl (by first | assumption | exact hW.1 _ _ rfl | exact hW.2.2.1 _ _ _ rfl) ?_
  refine rcV2i K dX1_load_9 c_X1_38 v_X0_takeFirst (by first | assumption | exact hW.1 _ _ rfl | exact hW.2.2.1 _ _ _ rfl) htf (by decide) (Nat.le_of_ble_eq_true rfl) ?_
  rintro _ J1 ⟨rfl, hJ1⟩
  refine r_aload_n K dX1_load_12 rfl ?_
  refine rcV0i K dX1_load_13 c_X1_42 v_X1_endUpdate (by first | assumption | exact hW.1 _ _ rfl | exact hW.2.2.1 _ _ _ rfl) (k_endUpdate hW) (by decide) (Nat.le_of_ble_eq_true rfl) ?_
  rintro _ J2 ⟨rfl, hJ2⟩
  exact q_vret K hQ rfl dX1_load_16 (Nat.le_refl _) (Nat.le_refl _) (⟨rfl, rfl, rfl, rfl, rfl, by rw [hJ2, hJ1]⟩)
set_option maxHeartbeats 4000000 in
set_option maxRecDepth 100000 in
theorem k_fits {v : Nat} (hW : Wd T L P) (hV : VS I) (hv : v < 5) (ha : 0 ≤ I 42 1 ∧ I 42 1 ≤ 120) (hb : ∀ j, j < 120 → 0 ≤ I 43 j ∧ I 43 j < 256) : pX1_fits [.inr (some 41), .inr (some (18 + 2 * v))] T L P I hn (.inl (if I 42 1 = I (18 + 2 * v) 1 ∧ ck (I 43) (I 42 1).toNat = ck (I (19 + 2 * v)) (I (18 + 2 * v) 1).toNat then 1 else 0)) := by
  refine CT.by (by decide) (Nat.le_of_ble_eq_true rfl) fun X Y Q hQ K hvv => ?_
  have l43 : L 43 = 120 := hW.2.1 43 120 rfl (by decide)
  have l45 : L 45 = 120 := hW.2.1 45 120 rfl (by decide)
  have l46 : L 46 = 120 := hW.2.1 46 120 rfl (by decide)
  have l47 : L 47 = 120 := hW.2.1 47 120 rfl (by decide)
  have l48 : L 48 = 120 := hW.2.1 48 120 rfl (by decide)
  have l49 : L 49 = 120 := hW.2.1 49 120 rfl (by decide)
  obtain ⟨w1, w2, w3, w4, w5⟩ := hW.ver hv
  have hvs := hV v hv
  have c1 := k_checksum (T := T) (L := L) (P := P) (I := I) (hn := hn) (a := 42) (v := 43) (hW.1 _ _ rfl) (hW.2.2.1 _ _ _ rfl) (hW.1 _ _ rfl) (by omega) (by omega) (by omega) (by rw [l43]; exact hb)
  have c2 := k_checksum (T := T) (L := L) (P := P) (I := I) (hn := hn) (a := 18 + 2 * v) (v := 19 + 2 * v) w2 w3 w4 (by omega) (by omega) (by omega) (by rw [w5]; exact hvs.2.2)
  refine r_aload_n K dX1_fits_0 rfl ?_
  refine r_getR K dX1_fits_1 f_X1_14 rfl (by first | assumption | exact hW.1 _ _ rfl | exact hW.2.2.1 _ _ _ rfl) (by first | assumption | exact hW.1 _ _ rfl | exact hW.2.2.1 _ _ _ rfl) ?_
  refine r_getI K dX1_fits_4 f_X1_34 rfl (by first | assumption | exact hW.1 _ _ rfl | exact hW.2.2.1 _ _ _ rfl) ?_
  refine r_aload_n K dX1_fits_7 rfl ?_
  refine r_getI K dX1_fits_8 f_X1_34 rfl (by first | assumption | exact hW.1 _ _ rfl | exact hW.2.2.1 _ _ _ rfl) ?_
  refine r_icmp_ne K 32 dX1_fits_11 (by decide) (fun c11 => ?_) (fun c11 => ?_)
  · refine r_iconst K dX1_fits_32 ?_
    exact q_zret K hQ rfl dX1_fits_33 (by first | exact Or.inl rfl | exact Or.inr rfl) (Nat.le_refl _) (Nat.le_refl _) (⟨by first | rw [if_pos (by omega)] | rw [if_neg (by omega)], rfl, rfl, rfl, rfl, rfl⟩)
  · refine r_aload_n K dX1_fits_14 rfl ?_
    refine r_getR K dX1_fits_15 f_X1_14 rfl (by first | assumption | exact hW.1 _ _ rfl | exact hW.2.2.1 _ _ _ rfl) (by first | assumption | exact hW.1 _ _ rfl | exact hW.2.2.1 _ _ _ rfl) ?_
    refine rcV0p K dX1_fits_18 c_X1_45 v_X0_checksum (by first | assumption | exact hW.1 _ _ rfl | exact hW.2.2.1 _ _ _ rfl) c1 (by decide) (Nat.le_of_ble_eq_true rfl) ?_
    refine r_aload_n K dX1_fits_21 rfl ?_
    refine rcV0p K dX1_fits_22 c_X1_45 v_X0_checksum (by first | assumption | exact hW.1 _ _ rfl | exact hW.2.2.1 _ _ _ rfl) c2 (by decide) (Nat.le_of_ble_eq_true rfl) ?_
    refine r_icmp_ne K 32 dX1_fits_25 (by decide) (fun c25 => ?_) (fun c25 => ?_)
    · refine r_iconst K dX1_fits_32 ?_
      exact q_zret K hQ rfl dX1_fits_33 (by first | exact Or.inl rfl | exact Or.inr rfl) (Nat.le_refl _) (Nat.le_refl _) (⟨by first | rw [if_pos (by omega)] | rw [if_neg (by omega)], rfl, rfl, rfl, rfl, rfl⟩)
    · refine r_iconst K dX1_fits_28 ?_
      refine r_goto K 33 dX1_fits_29 (by decide) ?_
      exact q_zret K hQ rfl dX1_fits_33 (by first | exact Or.inl rfl | exact Or.inr rfl) (Nat.le_refl _) (Nat.le_refl _) (⟨by first | rw [if_pos (by omega)] | rw [if_neg (by omega)], rfl, rfl, rfl, rfl, rfl⟩)
/-- what the device tells -/
def dTell (I : Nat → Nat → Int) (what : Int) : Int :=
  if what = 0 then I 42 1 else if what = 1 then ck (I 43) (I 42 1).toNat else if what = 2 then (if I 41 9 = 0 then 0 else if I 41 10 = 0 then 1 else 2) else if what = 3 then I 41 8 else if what = 4 then (if I 41 9 = 0 then 0 else if I 41 4 < I 41 6 then I 41 4 else I 41 6) else if what = 5 then (if I 41 9 = 0 then -1 else I 41 7) else if what = 6 then (if I 41 9 = 0 then -1 else I 41 5) else -1
set_option maxHeartbeats 4000000 in
set_option maxRecDepth 100000 in
theorem k_X1_tell {what : Int} (hW : Wd T L P) (ha : 0 ≤ I 42 1 ∧ I 42 1 ≤ 120) (hb : ∀ j, j < 120 → 0 ≤ I 43 j ∧ I 43 j < 256) : pX1_tell [.inr (some 41), .inl what] T L P I hn (.inl (dTell I what)) := by
  refine CT.by (by decide) (Nat.le_of_ble_eq_true rfl) fun X Y Q hQ K hv => ?_
  have l43 : L 43 = 120 := hW.2.1 43 120 rfl (by decide)
  have l45 : L 45 = 120 := hW.2.1 45 120 rfl (by decide)
  have l46 : L 46 = 120 := hW.2.1 46 120 rfl (by decide)
  have l47 : L 47 = 120 := hW.2.1 47 120 rfl (by decide)
  have l48 : L 48 = 120 := hW.2.1 48 120 rfl (by decide)
  have l49 : L 49 = 120 := hW.2.1 49 120 rfl (by decide)
  have c1 := k_checksum (T := T) (L := L) (P := P) (I := I) (hn := hn) (a := 42) (v := 43) (hW.1 _ _ rfl) (hW.2.2.1 _ _ _ rfl) (hW.1 _ _ rfl) (by omega) (by omega) (by omega) (by rw [l43]; exact hb)
  refine r_iload_n K dX1_tell_0 rfl ?_
  rcases (by omega : what = 0 ∨ what = 1 ∨ what = 2 ∨ what = 3 ∨ what = 4 ∨ what = 5 ∨ what = 6 ∨ (what < 0 ∨ 6 < what)) with hw | hw | hw | hw | hw | hw | hw | hw
  · refine r_tableIn K 44 dX1_tell_1 (by omega) (by omega) (by rw [hw]; rfl) (by decide) ?_
    refine r_aload_n K dX1_tell_44 rfl ?_
    refine r_getR K dX1_tell_45 f_X1_14 rfl (by first | assumption | exact hW.1 _ _ rfl | exact hW.2.2.1 _ _ _ rfl) (by first | assumption | exact hW.1 _ _ rfl | exact hW.2.2.1 _ _ _ rfl) ?_
    refine r_getI K dX1_tell_48 f_X1_34 rfl (by first | assumption | exact hW.1 _ _ rfl | exact hW.2.2.1 _ _ _ rfl) ?_
    exact q_iret K hQ rfl dX1_tell_51 (Nat.le_refl _) (Nat.le_refl _) (⟨by subst hw; rfl, rfl, rfl, rfl, rfl, rfl⟩)
  · refine r_tableIn K 52 dX1_tell_1 (by omega) (by omega) (by rw [hw]; rfl) (by decide) ?_
    refine r_aload_n K dX1_tell_52 rfl ?_
    refine r_getR K dX1_tell_53 f_X1_14 rfl (by first | assumption | exact hW.1 _ _ rfl | exact hW.2.2.1 _ _ _ rfl) (by first | assumption | exact hW.1 _ _ rfl | exact hW.2.2.1 _ _ _ rfl) ?_
    refine rcV0p K dX1_tell_56 c_X1_45 v_X0_checksum (by first | assumption | exact hW.1 _ _ rfl | exact hW.2.2.1 _ _ _ rfl) c1 (by decide) (Nat.le_of_ble_eq_true rfl) ?_
    exact q_iret K hQ rfl dX1_tell_59 (Nat.le_refl _) (Nat.le_refl _) (⟨by subst hw; rfl, rfl, rfl, rfl, rfl, rfl⟩)
  · refine r_tableIn K 60 dX1_tell_1 (by omega) (by omega) (by rw [hw]; rfl) (by decide) ?_
    refine r_aload_n K dX1_tell_60 rfl ?_
    refine r_getI K dX1_tell_61 f_X1_73 rfl (by first | assumption | exact hW.1 _ _ rfl | exact hW.2.2.1 _ _ _ rfl) ?_
    refine r_if_ne K 71 dX1_tell_64 (by decide) (fun c64 => ?_) (fun c64 => ?_)
    · refine r_aload_n K dX1_tell_71 rfl ?_
      refine r_getI K dX1_tell_72 f_X1_77 rfl (by first | assumption | exact hW.1 _ _ rfl | exact hW.2.2.1 _ _ _ rfl) ?_
      refine r_if_eq K 82 dX1_tell_75 (by decide) (fun c75 => ?_) (fun c75 => ?_)
      · refine r_iconst K dX1_tell_82 ?_
        exact q_iret K hQ rfl dX1_tell_83 (Nat.le_refl _) (Nat.le_refl _) (⟨by subst hw; rw [dTell]; simp only [Int.reduceEq, if_true, if_false]; first | rw [if_pos c64] | (rw [if_neg c64]; first | rw [if_pos c75] | rw [if_neg c75]), rfl, rfl, rfl, rfl, rfl⟩)
      · refine r_iconst K dX1_tell_78 ?_
        refine r_goto K 83 dX1_tell_79 (by decide) ?_
        exact q_iret K hQ rfl dX1_tell_83 (Nat.le_refl _) (Nat.le_refl _) (⟨by subst hw; rw [dTell]; simp only [Int.reduceEq, if_true, if_false]; first | rw [if_pos c64] | (rw [if_neg c64]; first | rw [if_pos c75] | rw [if_neg c75]), rfl, rfl, rfl, rfl, rfl⟩)
    · refine r_iconst K dX1_tell_67 ?_
      refine r_goto K 83 dX1_tell_68 (by decide) ?_
      exact q_iret K hQ rfl dX1_tell_83 (Nat.le_refl _) (Nat.le_refl _) (⟨by subst hw; rw [dTell]; simp only [Int.reduceEq, if_true, if_false]; first | rw [if_pos c64] | (rw [if_neg c64]; first | rw [if_pos c75] | rw [if_neg c75]), rfl, rfl, rfl, rfl, rfl⟩)
  · refine r_tableIn K 84 dX1_tell_1 (by omega) (by omega) (by rw [hw]; rfl) (by decide) ?_
    refine r_aload_n K dX1_tell_84 rfl ?_
    refine r_getI K dX1_tell_85 f_X1_87 rfl (by first | assumption | exact hW.1 _ _ rfl | exact hW.2.2.1 _ _ _ rfl) ?_
    exact q_iret K hQ rfl dX1_tell_88 (Nat.le_refl _) (Nat.le_refl _) (⟨by subst hw; rfl, rfl, rfl, rfl, rfl, rfl⟩)
  · refine r_tableIn K 89 dX1_tell_1 (by omega) (by omega) (by rw [hw]; rfl) (by decide) ?_
    refine r_aload_n K dX1_tell_89 rfl ?_
    refine r_getI K dX1_tell_90 f_X1_73 rfl (by first | assumption | exact hW.1 _ _ rfl | exact hW.2.2.1 _ _ _ rfl) ?_
    refine r_if_eq K 110 dX1_tell_93 (by decide) (fun c93 => ?_) (fun c93 => ?_)
    · refine r_iconst K dX1_tell_110 ?_
      exact q_iret K hQ rfl dX1_tell_111 (Nat.le_refl _) (Nat.le_refl _) (⟨by subst hw; rw [dTell]; simp only [Int.reduceEq, if_true, if_false]; first | rw [if_pos c93] | rw [if_neg c93], rfl, rfl, rfl, rfl, rfl⟩)
    · refine r_aload_n K dX1_tell_96 rfl ?_
      refine r_getI K dX1_tell_97 f_X1_67 rfl (by first | assumption | exact hW.1 _ _ rfl | exact hW.2.2.1 _ _ _ rfl) ?_
      refine r_aload_n K dX1_tell_100 rfl ?_
      refine r_getI K dX1_tell_101 f_X1_60 rfl (by first | assumption | exact hW.1 _ _ rfl | exact hW.2.2.1 _ _ _ rfl) ?_
      refine r_min K dX1_tell_104 m_X1_105 (Nat.le_of_ble_eq_true rfl) (Nat.le_of_ble_eq_true rfl) (Nat.le_of_ble_eq_true rfl) (Nat.le_of_ble_eq_true rfl) ?_
      refine r_goto K 111 dX1_tell_107 (by decide) ?_
      exact q_iret K hQ rfl dX1_tell_111 (Nat.le_refl _) (Nat.le_refl _) (⟨by subst hw; rw [dTell]; simp only [Int.reduceEq, if_true, if_false]; first | rw [if_pos c93] | rw [if_neg c93], rfl, rfl, rfl, rfl, rfl⟩)
  · refine r_tableIn K 112 dX1_tell_1 (by omega) (by omega) (by rw [hw]; rfl) (by decide) ?_
    refine r_aload_n K dX1_tell_112 rfl ?_
    refine r_getI K dX1_tell_113 f_X1_73 rfl (by first | assumption | exact hW.1 _ _ rfl | exact hW.2.2.1 _ _ _ rfl) ?_
    refine r_if_eq K 126 dX1_tell_116 (by decide) (fun c116 => ?_) (fun c116 => ?_)
    · refine r_iconst K dX1_tell_126 ?_
      exact q_iret K hQ rfl dX1_tell_127 (Nat.le_refl _) (Nat.le_refl _) (⟨by subst hw; rw [dTell]; simp only [Int.reduceEq, if_true, if_false]; first | rw [if_pos c116] | rw [if_neg c116], rfl, rfl, rfl, rfl, rfl⟩)
    · refine r_aload_n K dX1_tell_119 rfl ?_
      refine r_getI K dX1_tell_120 f_X1_70 rfl (by first | assumption | exact hW.1 _ _ rfl | exact hW.2.2.1 _ _ _ rfl) ?_
      refine r_goto K 127 dX1_tell_123 (by decide) ?_
      exact q_iret K hQ rfl dX1_tell_127 (Nat.le_refl _) (Nat.le_refl _) (⟨by subst hw; rw [dTell]; simp only [Int.reduceEq, if_true, if_false]; first | rw [if_pos c116] | rw [if_neg c116], rfl, rfl, rfl, rfl, rfl⟩)
  · refine r_tableIn K 128 dX1_tell_1 (by omega) (by omega) (by rw [hw]; rfl) (by decide) ?_
    refine r_aload_n K dX1_tell_128 rfl ?_
    refine r_getI K dX1_tell_129 f_X1_73 rfl (by first | assumption | exact hW.1 _ _ rfl | exact hW.2.2.1 _ _ _ rfl) ?_
    refine r_if_eq K 142 dX1_tell_132 (by decide) (fun c132 => ?_) (fun c132 => ?_)
    · refine r_iconst K dX1_tell_142 ?_
      exact q_iret K hQ rfl dX1_tell_143 (Nat.le_refl _) (Nat.le_refl _) (⟨by subst hw; rw [dTell]; simp only [Int.reduceEq, if_true, if_false]; first | rw [if_pos c132] | rw [if_neg c132], rfl, rfl, rfl, rfl, rfl⟩)
    · refine r_aload_n K dX1_tell_135 rfl ?_
      refine r_getI K dX1_tell_136 f_X1_57 rfl (by first | assumption | exact hW.1 _ _ rfl | exact hW.2.2.1 _ _ _ rfl) ?_
      refine r_goto K 143 dX1_tell_139 (by decide) ?_
      exact q_iret K hQ rfl dX1_tell_143 (Nat.le_refl _) (Nat.le_refl _) (⟨by subst hw; rw [dTell]; simp only [Int.reduceEq, if_true, if_false]; first | rw [if_pos c132] | rw [if_neg c132], rfl, rfl, rfl, rfl, rfl⟩)
  · refine r_tableOut K 144 dX1_tell_1 hw (by decide) ?_
    refine r_iconst K dX1_tell_144 ?_
    exact q_iret K hQ rfl dX1_tell_145 (Nat.le_refl _) (Nat.le_refl _) (⟨by rw [dTell, if_neg (by omega), if_neg (by omega), if_neg (by omega), if_neg (by omega), if_neg (by omega), if_neg (by omega), if_neg (by omega)], rfl, rfl, rfl, rfl, rfl⟩)
/-- the better way: 1 is down -/
def wayB (s b : Nat → Int) (n : Nat) : Int := if cn (kpt s b 1 n) 120 < cn (kpt s b 0 n) 120 then 1 else 0
/-- an update is begun: its plan is the trace of cells tp, tb -/
def bPost (I : Nat → Nat → Int) (tp tb n : Nat) (J : Nat → Nat → Int) : Prop :=
  (∀ c, c ≠ 41 → c ≠ 44 → c ≠ 45 → c ≠ 46 → c ≠ 47 → c ≠ 48 → J c = I c) ∧ J 44 3 = n ∧ (∀ j, j < 120 → J 45 j = I tp j ∧ J 46 j = I tb j) ∧ J 41 5 = wayB (I tp) (I tb) n ∧ (∀ p, p < 120 → J 47 p = if kpt (I tp) (I tb) (wayB (I tp) (I tb) n) n p = true then 1 else 0) ∧ J 41 4 = cn (kpt (I tp) (I tb) (wayB (I tp) (I tb) n) n) 120 ∧ (∀ p, p < 120 → kpt (I tp) (I tb) (wayB (I tp) (I tb) n) n p = true → J 48 (cn (kpt (I tp) (I tb) (wayB (I tp) (I tb) n) n) p).toNat = p) ∧ J 41 6 = 0 ∧ J 41 7 = -1 ∧ J 41 8 = I 41 8 ∧ J 41 9 = 1 ∧ J 41 10 = I 41 10
set_option maxHeartbeats 4000000 in
set_option maxRecDepth 100000 in
theorem k_begin {t tp tb n : Nat} (hW : Wd T L P) (ht : T t = 6) (q0 : P t 0 = some tp) (q1 : P t 1 = some tb) (s0 : T tp = 10) (s1 : T tb = 10) (m0 : L tp = 120) (m1 : L tb = 120) (hc : I t 3 = n) (hn1 : n ≤ 120) (lt : t < 41) (lp : tp < 41) (lb : tb < 41) : iX1_begin [.inr (some 41), .inr (some t)] T L P I hn (fun r J => r = none ∧ bPost I tp tb n J) := by
  refine CT.by (by decide) (Nat.le_of_ble_eq_true rfl) fun X Y Q hQ K hv => ?_
  have l43 : L 43 = 120 := hW.2.1 43 120 rfl (by decide)
  have l45 : L 45 = 120 := hW.2.1 45 120 rfl (by decide)
  have l46 : L 46 = 120 := hW.2.1 46 120 rfl (by decide)
  have l47 : L 47 = 120 := hW.2.1 47 120 rfl (by decide)
  have l48 : L 48 = 120 := hW.2.1 48 120 rfl (by decide)
  have l49 : L 49 = 120 := hW.2.1 49 120 rfl (by decide)
  have htk := k_take (T := T) (L := L) (P := P) (I := I) (hn := hn) (t := 44) (tp := 45) (tb := 46) (e := t) (ep := tp) (eb := tb) (hW.1 _ _ rfl) (hW.2.2.1 _ _ _ rfl) (hW.2.2.1 _ _ _ rfl) (hW.1 _ _ rfl) (hW.1 _ _ rfl) l45 l46 ht q0 q1 s0 s1 m0 m1 (by omega) (by omega) (by omega) (by omega) (by decide)
  obtain ⟨w, hw⟩ : ∃ w, w = wayB (I tp) (I tb) n := ⟨_, rfl⟩
  obtain ⟨kp, hkp⟩ : ∃ kp, kp = kpt (I tp) (I tb) w n := ⟨_, rfl⟩
  have hw01 : w = 0 ∨ w = 1 := by rw [hw, wayB]; split <;> simp
  unfold bPost at hQ
  rw [← hw, ← hkp] at hQ
  have kc : ∀ {J : Nat → Nat → Int} (z : Int), J 44 3 = n → (∀ j, j < 120 → J 45 j = I tp j ∧ J 46 j = I tb j) → ∀ p, kpt (J 45) (J 46) z n p = kpt (I tp) (I tb) z n p := fun z h1 h2 p => kpt_cong (fun q hq => ⟨(h2 q (by omega)).1, fun _ => (h2 q (by omega)).2⟩)
  have loop : ∀ (J0 : Nat → Nat → Int) (d p : Nat) (z : Int) (J : Nat → Nat → Int), (∀ c, c ≠ 41 → c ≠ 44 → c ≠ 45 → c ≠ 46 → c ≠ 47 → J0 c = I c) → J0 44 3 = n → (∀ j, j < 120 → J0 45 j = I tp j ∧ J0 46 j = I tb j) → J0 41 5 = w → (∀ p, p < 120 → J0 47 p = if kp p = true then 1 else 0) → (∀ j, j ≠ 5 → j ≠ 4 → J0 41 j = I 41 j) → z = p → 120 - p = d → p ≤ 120 → (∀ c, c ≠ 41 → c ≠ 48 → J c = J0 c) → (∀ j, j ≠ 4 → J 41 j = J0 41 j) → J 41 4 = cn kp p → (∀ q, q < p → kp q = true → J 48 (cn kp q).toNat = q) → RR X Y Q 0 0 55 [some (.inr (some 41)), some (.inr (some t)), some (.inl z)] [] T L P J hn := by
    intro J0 d
    induction d using Nat.strongRecOn with
    | ind d ih =>
      intro p z J i1 i2 i3 i4 i5 i6 hz hd hp h1 h2 h3 h4
      subst hz
      have hcn := cn_in kp p
      have hik := k_isKept (T := T) (L := L) (P := P) (I := J) (hn := hn) (t := 44) (tp := 45) (tb := 46) (tk := 47) (p := (p : Int)) (hW.1 _ _ rfl) (hW.2.2.1 _ _ _ rfl) (hW.2.2.1 _ _ _ rfl) (hW.2.2.1 _ _ _ rfl) (hW.1 _ _ rfl) (hW.1 _ _ rfl) (hW.1 _ _ rfl) l45 l46 l47
      rw [Int.toNat_natCast, h1 47 (by decide) (by decide)] at hik
      refine r_iload_n K dX1_begin_55 rfl ?_
      refine r_bipush K dX1_begin_56 ?_
      refine r_icmp_ge K 98 dX1_begin_58 (by decide) (fun c58 => ?_) (fun c58 => ?_)
      · have hp120 : p = 120 := by omega
        subst hp120
        refine r_aload_n K dX1_begin_98 rfl ?_
        refine r_iconst K dX1_begin_99 ?_
        refine r_putI K dX1_begin_100 f_X1_67 rfl rfl (Or.inl rfl) (by first | assumption | exact hW.1 _ _ rfl | exact hW.2.2.1 _ _ _ rfl) ?_
        refine r_aload_n K dX1_begin_103 rfl ?_
        refine r_iconst K dX1_begin_104 ?_
        refine r_putI K dX1_begin_105 f_X1_70 rfl rfl (Or.inl rfl) (by first | assumption | exact hW.1 _ _ rfl | exact hW.2.2.1 _ _ _ rfl) ?_
        refine r_aload_n K dX1_begin_108 rfl ?_
        refine r_iconst K dX1_begin_109 ?_
        refine r_putI K dX1_begin_110 f_X1_73 rfl rfl (Or.inr ⟨rfl, by first | exact Or.inl rfl | exact Or.inr rfl⟩) (by first | assumption | exact hW.1 _ _ rfl | exact hW.2.2.1 _ _ _ rfl) ?_
        exact q_vret K hQ rfl dX1_begin_113 (Nat.le_refl _) (Nat.le_refl _) (⟨rfl, rfl, rfl, rfl, rfl, fun c c1 c2 c3 c4 c5 c6 => by rw [mI_ne c1, mI_ne c1, mI_ne c1, h1 c c1 c6]; exact i1 c c1 c2 c3 c4 c5, by rw [mI_ne (by decide), mI_ne (by decide), mI_ne (by decide), h1 44 (by decide) (by decide)]; exact i2, by
          rw [mI_ne (by decide), mI_ne (by decide), mI_ne (by decide), mI_ne (by decide), mI_ne (by decide), mI_ne (by decide), h1 45 (by decide) (by decide), h1 46 (by decide) (by decide)]; exact i3, by
          rw [mI_nj (by decide), mI_nj (by decide), mI_nj (by decide), h2 5 (by decide)]; exact i4, by
          rw [mI_ne (by decide), mI_ne (by decide), mI_ne (by decide), h1 47 (by decide) (by decide)]; exact i5, by
          rw [mI_nj (by decide), mI_nj (by decide), mI_nj (by decide)]; exact h3, by
          rw [mI_ne (by decide), mI_ne (by decide), mI_ne (by decide)]; exact h4, by
          rw [mI_nj (by decide), mI_nj (by decide), mI_eq], by rw [mI_nj (by decide), mI_eq], by
          rw [mI_nj (by decide), mI_nj (by decide), mI_nj (by decide), h2 8 (by decide)]; exact i6 8 (by decide) (by decide), mI_eq, by
          rw [mI_nj (by decide), mI_nj (by decide), mI_nj (by decide), h2 10 (by decide)]; exact i6 10 (by decide) (by decide)⟩)
      · have hpl : p < 120 := by omega
        have h47 := i5 p hpl
        refine r_aload_n K dX1_begin_61 rfl ?_
        refine r_getR K dX1_begin_62 f_X1_23 rfl (by first | assumption | exact hW.1 _ _ rfl | exact hW.2.2.1 _ _ _ rfl) (by first | assumption | exact hW.1 _ _ rfl | exact hW.2.2.1 _ _ _ rfl) ?_
        refine r_iload_n K dX1_begin_65 rfl ?_
        refine rcV1p K dX1_begin_66 c_X1_63 v_X6_isKept (by first | assumption | exact hW.1 _ _ rfl | exact hW.2.2.1 _ _ _ rfl) hik (by decide) (Nat.le_of_ble_eq_true rfl) ?_
        refine r_if_eq K 92 dX1_begin_69 (by decide) (fun c69 => ?_) (fun c69 => ?_)
        · have hkf : kp p = false := by
            cases hk : kp p with
            | false => rfl
            | true => rw [hk] at h47; rw [if_pos ⟨by omega, by omega, by rw [h47]; decide⟩] at c69; exact absurd c69 (by decide)
          refine r_iinc K dX1_begin_92 (by decide) rfl ?_
          refine r_goto K 55 dX1_begin_95 (by decide) ?_
          first
            | exact ih _ (by omega) (p + 1) _ J i1 i2 i3 i4 i5 i6 (by omega) rfl (by omega) h1 h2 (by rw [cn, hkf]; simpa using h3) (fun q hq hk => by
                by_cases e : q = p
                · subst e; rw [hkf] at hk; cases hk
                · exact h4 q (by omega) hk)
            | (refine ih _ (by omega) (p + 1) _ _ i1 i2 i3 i4 i5 i6 (by omega) rfl (by omega) (fun c c1 c2 => by rw [mI_ne c1, mI_ne c2]; exact h1 c c1 c2) (fun j hj => by rw [mI_nj hj, mI_ne (by decide)]; exact h2 j hj) (by rw [mI_eq, cn, hkt]; rfl) (fun q hq hk => ?_)
               rw [mI_ne (by decide), mI_row]
               by_cases e : q = p
               · subst e; rw [if_pos rfl]
               · have hlt := cn_lt (f := kp) (a := q) (b := p) (by omega) hk
                 have hq0 := cn_in kp q
                 rw [if_neg (by omega)]; exact h4 q (by omega) hk)
        · have hkt : kp p = true := by
            cases hk : kp p with
            | true => rfl
            | false => rw [hk] at h47; rw [if_neg (fun h => h.2.2 (by rw [h47]; rfl))] at c69; exact absurd rfl c69
          refine r_aload_n K dX1_begin_72 rfl ?_
          refine r_getR K dX1_begin_73 f_X1_27 rfl (by first | assumption | exact hW.1 _ _ rfl | exact hW.2.2.1 _ _ _ rfl) (by first | assumption | exact hW.1 _ _ rfl | exact hW.2.2.1 _ _ _ rfl) ?_
          refine r_aload_n K dX1_begin_76 rfl ?_
          refine r_getI K dX1_begin_77 f_X1_60 rfl (by first | assumption | exact hW.1 _ _ rfl | exact hW.2.2.1 _ _ _ rfl) ?_
          rw [h3]
          refine r_iload_n K dX1_begin_80 rfl ?_
          refine r_iast K dX1_begin_81 (by first | assumption | exact hW.1 _ _ rfl | exact hW.2.2.1 _ _ _ rfl) (by omega) (by omega) ?_
          refine r_aload_n K dX1_begin_82 rfl ?_
          refine r_dup K dX1_begin_83 ?_
          refine r_getI K dX1_begin_84 f_X1_60 rfl (by first | assumption | exact hW.1 _ _ rfl | exact hW.2.2.1 _ _ _ rfl) ?_
          rw [mI_ne (by decide), h3]
          refine r_iconst K dX1_begin_87 ?_
          refine r_iadd K dX1_begin_88 ?_
          refine r_putI K dX1_begin_89 f_X1_60 rfl rfl (Or.inl rfl) (by first | assumption | exact hW.1 _ _ rfl | exact hW.2.2.1 _ _ _ rfl) ?_
          refine r_iinc K dX1_begin_92 (by decide) rfl ?_
          refine r_goto K 55 dX1_begin_95 (by decide) ?_
          first
            | exact ih _ (by omega) (p + 1) _ J i1 i2 i3 i4 i5 i6 (by omega) rfl (by omega) h1 h2 (by rw [cn, hkf]; simpa using h3) (fun q hq hk => by
                by_cases e : q = p
                · subst e; rw [hkf] at hk; cases hk
                · exact h4 q (by omega) hk)
            | (refine ih _ (by omega) (p + 1) _ _ i1 i2 i3 i4 i5 i6 (by omega) rfl (by omega) (fun c c1 c2 => by rw [mI_ne c1, mI_ne c2]; exact h1 c c1 c2) (fun j hj => by rw [mI_nj hj, mI_ne (by decide)]; exact h2 j hj) (by rw [mI_eq, cn, hkt]; rfl) (fun q hq hk => ?_)
               rw [mI_ne (by decide), mI_row]
               by_cases e : q = p
               · subst e; rw [if_pos rfl]
               · have hlt := cn_lt (f := kp) (a := q) (b := p) (by omega) hk
                 have hq0 := cn_in kp q
                 rw [if_neg (by omega)]; exact h4 q (by omega) hk)
  refine r_aload_n K dX1_begin_0 rfl ?_
  refine r_getR K dX1_begin_1 f_X1_23 rfl (by first | assumption | exact hW.1 _ _ rfl | exact hW.2.2.1 _ _ _ rfl) (by first | assumption | exact hW.1 _ _ rfl | exact hW.2.2.1 _ _ _ rfl) ?_
  refine r_aload_n K dX1_begin_4 rfl ?_
  refine rcV1i K dX1_begin_5 c_X1_49 v_X6_take (by first | assumption | exact hW.1 _ _ rfl | exact hW.2.2.1 _ _ _ rfl) htk (by decide) (Nat.le_of_ble_eq_true rfl) ?_
  rintro _ J1 ⟨rfl, a1, a2, a3, a4⟩
  have b1 := kc (J := J1) 1 (by rw [a2]; exact hc) a4
  refine r_aload_n K dX1_begin_8 rfl ?_
  refine r_aload_n K dX1_begin_9 rfl ?_
  refine r_getR K dX1_begin_10 f_X1_23 rfl (by first | assumption | exact hW.1 _ _ rfl | exact hW.2.2.1 _ _ _ rfl) (by first | assumption | exact hW.1 _ _ rfl | exact hW.2.2.1 _ _ _ rfl) ?_
  refine r_iconst K dX1_begin_13 ?_
  refine rcV1i K dX1_begin_14 c_X1_53 v_X6_countKept (by first | assumption | exact hW.1 _ _ rfl | exact hW.2.2.1 _ _ _ rfl) (k_countKept (T := T) (L := L) (P := P) (I := J1) (hn := hn) (t := 44) (tp := 45) (tb := 46) (tk := 47) (n := n) (w := 1) (hW.1 _ _ rfl) (hW.2.2.1 _ _ _ rfl) (hW.2.2.1 _ _ _ rfl) (hW.2.2.1 _ _ _ rfl) (hW.1 _ _ rfl) (hW.1 _ _ rfl) (hW.1 _ _ rfl) l45 l46 l47 (by rw [a2]; exact hc) hn1 (Or.inr rfl) (by decide) (by decide)) (by decide) (Nat.le_of_ble_eq_true rfl) ?_
  rintro _ J2 ⟨rfl, d1, d2⟩
  have f45 : J2 45 = J1 45 := d1 45 (by decide)
  have f46 : J2 46 = J1 46 := d1 46 (by decide)
  have f44 : J2 44 = J1 44 := d1 44 (by decide)
  refine r_aload_n K dX1_begin_17 rfl ?_
  refine r_getR K dX1_begin_18 f_X1_23 rfl (by first | assumption | exact hW.1 _ _ rfl | exact hW.2.2.1 _ _ _ rfl) (by first | assumption | exact hW.1 _ _ rfl | exact hW.2.2.1 _ _ _ rfl) ?_
  refine r_iconst K dX1_begin_21 ?_
  refine rcV1i K dX1_begin_22 c_X1_53 v_X6_countKept (by first | assumption | exact hW.1 _ _ rfl | exact hW.2.2.1 _ _ _ rfl) (k_countKept (T := T) (L := L) (P := P) (I := J2) (hn := hn) (t := 44) (tp := 45) (tb := 46) (tk := 47) (n := n) (w := 0) (hW.1 _ _ rfl) (hW.2.2.1 _ _ _ rfl) (hW.2.2.1 _ _ _ rfl) (hW.2.2.1 _ _ _ rfl) (hW.1 _ _ rfl) (hW.1 _ _ rfl) (hW.1 _ _ rfl) l45 l46 l47 (by rw [f44, a2]; exact hc) hn1 (Or.inl rfl) (by decide) (by decide)) (by decide) (Nat.le_of_ble_eq_true rfl) ?_
  rintro _ J3 ⟨rfl, e1, e2⟩
  have g45 : J3 45 = J1 45 := (e1 45 (by decide)).trans f45
  have g46 : J3 46 = J1 46 := (e1 46 (by decide)).trans f46
  have g44 : J3 44 = J1 44 := (e1 44 (by decide)).trans f44
  have g41 : J3 41 = I 41 := (e1 41 (by decide)).trans ((d1 41 (by decide)).trans (a1 41 (by decide) (by decide) (by decide)))
  rw [f45, f46]
  have k1 : cn (kpt (J1 45) (J1 46) 1 n) 120 = cn (kpt (I tp) (I tb) 1 n) 120 := cn_cong (fun k _ => kc (J := J1) 1 (by rw [a2]; exact hc) a4 k)
  have k0 : cn (kpt (J1 45) (J1 46) 0 n) 120 = cn (kpt (I tp) (I tb) 0 n) 120 := cn_cong (fun k _ => kc (J := J1) 0 (by rw [a2]; exact hc) a4 k)
  rw [k1, k0]
  have j33 : RR X Y Q 0 0 33 [some (.inr (some 41)), some (.inr (some t)), none] [.inl w, .inr (some 41)] T L P J3 hn := by
    refine r_putI K dX1_begin_33 f_X1_57 rfl rfl (Or.inl rfl) (by first | assumption | exact hW.1 _ _ rfl | exact hW.2.2.1 _ _ _ rfl) ?_
    refine r_aload_n K dX1_begin_36 rfl ?_
    refine r_getR K dX1_begin_37 f_X1_23 rfl (by first | assumption | exact hW.1 _ _ rfl | exact hW.2.2.1 _ _ _ rfl) (by first | assumption | exact hW.1 _ _ rfl | exact hW.2.2.1 _ _ _ rfl) ?_
    refine r_aload_n K dX1_begin_40 rfl ?_
    refine r_getI K dX1_begin_41 f_X1_57 rfl (by first | assumption | exact hW.1 _ _ rfl | exact hW.2.2.1 _ _ _ rfl) ?_
    rw [mI_eq]
    refine rcV1i K dX1_begin_44 c_X1_53 v_X6_countKept (by first | assumption | exact hW.1 _ _ rfl | exact hW.2.2.1 _ _ _ rfl) (k_countKept (T := T) (L := L) (P := P) (I := mI J3 41 5 w) (hn := hn) (t := 44) (tp := 45) (tb := 46) (tk := 47) (n := n) (w := w) (hW.1 _ _ rfl) (hW.2.2.1 _ _ _ rfl) (hW.2.2.1 _ _ _ rfl) (hW.2.2.1 _ _ _ rfl) (hW.1 _ _ rfl) (hW.1 _ _ rfl) (hW.1 _ _ rfl) l45 l46 l47 (by rw [mI_ne (by decide), g44, a2]; exact hc) hn1 hw01 (by decide) (by decide)) (by decide) (Nat.le_of_ble_eq_true rfl) ?_
    rintro _ J4 ⟨rfl, h1, h2⟩
    rw [mI_ne (by decide), mI_ne (by decide), g45, g46] at h2
    refine r_pop K dX1_begin_47 ?_
    refine r_aload_n K dX1_begin_48 rfl ?_
    refine r_iconst K dX1_begin_49 ?_
    refine r_putI K dX1_begin_50 f_X1_60 rfl rfl (Or.inl rfl) (by first | assumption | exact hW.1 _ _ rfl | exact hW.2.2.1 _ _ _ rfl) ?_
    refine r_iconst K dX1_begin_53 ?_
    refine r_istore_n K dX1_begin_54 (by decide) ?_
    refine loop (mI J4 41 4 0) _ 0 0 _ (fun c c1 c2 c3 c4 c5 => ?_) ?_ (fun j hj => ?_) ?_ (fun p hp => ?_) (fun j h5 h4 => ?_) rfl rfl (by omega) (fun _ _ _ => rfl) (fun _ _ => rfl) (by rw [mI_eq]; rfl) (fun q hq => absurd hq (by omega))
    · rw [mI_ne c1, h1 c c5, mI_ne c1, e1 c c5, d1 c c5]; exact a1 c c2 c3 c4
    · rw [mI_ne (by decide), h1 44 (by decide), mI_ne (by decide), g44, a2]; exact hc
    · rw [mI_ne (by decide), mI_ne (by decide), h1 45 (by decide), h1 46 (by decide), mI_ne (by decide), mI_ne (by decide), g45, g46]; exact a4 j hj
    · rw [mI_nj (by decide), h1 41 (by decide), mI_eq]
    · rw [mI_ne (by decide), h2 p hp, hkp, kc (J := J1) w (by rw [a2]; exact hc) a4 p]
    · rw [mI_nj h4, h1 41 (by decide), mI_nj h5, g41]
  refine r_icmp_ge K 32 dX1_begin_25 (by decide) (fun c25 => ?_) (fun c25 => ?_)
  · refine r_iconst K dX1_begin_32 ?_
    first
      | (rw [show w = 1 by rw [hw, wayB, if_pos c25]] at j33; exact j33)
      | (rw [show w = 0 by rw [hw, wayB, if_neg (by omega)]] at j33; exact j33)
  · refine r_iconst K dX1_begin_28 ?_
    refine r_goto K 33 dX1_begin_29 (by decide) ?_
    first
      | (rw [show w = 1 by rw [hw, wayB, if_pos c25]] at j33; exact j33)
      | (rw [show w = 0 by rw [hw, wayB, if_neg (by omega)]] at j33; exact j33)
end DE2
end
