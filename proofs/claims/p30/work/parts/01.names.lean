-- ===== PART A: goes FIRST, ahead of the names: the tables' words, and 'selects' of the private methods out of them =====
/-- a private method of a class that the tables say can be made, by its rows of tables_1 -/
def lw_okq (q : MethodName × Nat) : Prop := (q.1.cls ≠ "java/lang/invoke/MethodHandle" ∧ q.1.cls ≠ "java/lang/invoke/VarHandle") ∧ Cond.instantiable q.1.cls q.2 ∈ tables_1 ∧ Cond.privateMethod q.1 ∈ tables_1 ∧ Cond.instanceMethod q.1 ∈ tables_1
theorem lw_p0 : lw_okq (⟨"BatchExecutive", "record", "()V"⟩, 6) := ⟨⟨by decide +kernel, by decide +kernel⟩, List.mem_of_getElem? (i := 10) (by decide +kernel), List.mem_of_getElem? (i := 268) (by decide +kernel), List.mem_of_getElem? (i := 269) (by decide +kernel)⟩
theorem lw_p1 : lw_okq (⟨"BatchExecutive", "isUnit", "(I)Z"⟩, 6) := ⟨⟨by decide +kernel, by decide +kernel⟩, List.mem_of_getElem? (i := 10) (by decide +kernel), List.mem_of_getElem? (i := 304) (by decide +kernel), List.mem_of_getElem? (i := 305) (by decide +kernel)⟩
theorem lw_p2 : lw_okq (⟨"BatchExecutive", "isBatch", "(I)Z"⟩, 6) := ⟨⟨by decide +kernel, by decide +kernel⟩, List.mem_of_getElem? (i := 10) (by decide +kernel), List.mem_of_getElem? (i := 340) (by decide +kernel), List.mem_of_getElem? (i := 341) (by decide +kernel)⟩
theorem lw_p3 : lw_okq (⟨"BatchExecutive$State", "valueOf", "(LBatchExecutive$Batch;I)I"⟩, 12) := ⟨⟨by decide +kernel, by decide +kernel⟩, List.mem_of_getElem? (i := 69) (by decide +kernel), List.mem_of_getElem? (i := 369) (by decide +kernel), List.mem_of_getElem? (i := 370) (by decide +kernel)⟩
theorem lw_p4 : lw_okq (⟨"BatchExecutive$Text", "readPhase", "()V"⟩, 7) := ⟨⟨by decide +kernel, by decide +kernel⟩, List.mem_of_getElem? (i := 34) (by decide +kernel), List.mem_of_getElem? (i := 425) (by decide +kernel), List.mem_of_getElem? (i := 426) (by decide +kernel)⟩
theorem lw_p5 : lw_okq (⟨"BatchExecutive$Text", "current", "()I"⟩, 7) := ⟨⟨by decide +kernel, by decide +kernel⟩, List.mem_of_getElem? (i := 34) (by decide +kernel), List.mem_of_getElem? (i := 429) (by decide +kernel), List.mem_of_getElem? (i := 430) (by decide +kernel)⟩
theorem lw_p6 : lw_okq (⟨"BatchExecutive$Text", "blameCurrent", "()V"⟩, 7) := ⟨⟨by decide +kernel, by decide +kernel⟩, List.mem_of_getElem? (i := 34) (by decide +kernel), List.mem_of_getElem? (i := 436) (by decide +kernel), List.mem_of_getElem? (i := 437) (by decide +kernel)⟩
theorem lw_p7 : lw_okq (⟨"BatchExecutive$Text", "blame", "(II)V"⟩, 7) := ⟨⟨by decide +kernel, by decide +kernel⟩, List.mem_of_getElem? (i := 34) (by decide +kernel), List.mem_of_getElem? (i := 440) (by decide +kernel), List.mem_of_getElem? (i := 441) (by decide +kernel)⟩
theorem lw_p8 : lw_okq (⟨"BatchExecutive$Text", "readRest", "(I)V"⟩, 7) := ⟨⟨by decide +kernel, by decide +kernel⟩, List.mem_of_getElem? (i := 34) (by decide +kernel), List.mem_of_getElem? (i := 444) (by decide +kernel), List.mem_of_getElem? (i := 445) (by decide +kernel)⟩
theorem lw_p9 : lw_okq (⟨"BatchExecutive$Text", "readNumber", "(II)I"⟩, 7) := ⟨⟨by decide +kernel, by decide +kernel⟩, List.mem_of_getElem? (i := 34) (by decide +kernel), List.mem_of_getElem? (i := 448) (by decide +kernel), List.mem_of_getElem? (i := 449) (by decide +kernel)⟩
theorem lw_p10 : lw_okq (⟨"BatchExecutive$Text", "passes", "(C)Z"⟩, 7) := ⟨⟨by decide +kernel, by decide +kernel⟩, List.mem_of_getElem? (i := 34) (by decide +kernel), List.mem_of_getElem? (i := 455) (by decide +kernel), List.mem_of_getElem? (i := 456) (by decide +kernel)⟩
theorem lw_p11 : lw_okq (⟨"BatchExecutive$Text", "readPiece", "()I"⟩, 7) := ⟨⟨by decide +kernel, by decide +kernel⟩, List.mem_of_getElem? (i := 34) (by decide +kernel), List.mem_of_getElem? (i := 459) (by decide +kernel), List.mem_of_getElem? (i := 460) (by decide +kernel)⟩
theorem lw_p12 : lw_okq (⟨"BatchExecutive$State", "unitFor", "(LBatchExecutive$Batch;I)I"⟩, 12) := ⟨⟨by decide +kernel, by decide +kernel⟩, List.mem_of_getElem? (i := 69) (by decide +kernel), List.mem_of_getElem? (i := 491) (by decide +kernel), List.mem_of_getElem? (i := 492) (by decide +kernel)⟩
theorem lw_p13 : lw_okq (⟨"BatchExecutive$State", "insertInOrder", "(I)V"⟩, 12) := ⟨⟨by decide +kernel, by decide +kernel⟩, List.mem_of_getElem? (i := 69) (by decide +kernel), List.mem_of_getElem? (i := 518) (by decide +kernel), List.mem_of_getElem? (i := 519) (by decide +kernel)⟩
theorem lw_p14 : lw_okq (⟨"BatchExecutive$State", "releasePieces", "(I)V"⟩, 12) := ⟨⟨by decide +kernel, by decide +kernel⟩, List.mem_of_getElem? (i := 69) (by decide +kernel), List.mem_of_getElem? (i := 575) (by decide +kernel), List.mem_of_getElem? (i := 576) (by decide +kernel)⟩
theorem lw_p15 : lw_okq (⟨"BatchExecutive$State", "bringToEnd", "(III)V"⟩, 12) := ⟨⟨by decide +kernel, by decide +kernel⟩, List.mem_of_getElem? (i := 69) (by decide +kernel), List.mem_of_getElem? (i := 605) (by decide +kernel), List.mem_of_getElem? (i := 606) (by decide +kernel)⟩
def lw_privs_1 : List (MethodName × Nat) := [(⟨"BatchExecutive", "record", "()V"⟩, 6), (⟨"BatchExecutive", "isUnit", "(I)Z"⟩, 6), (⟨"BatchExecutive", "isBatch", "(I)Z"⟩, 6), (⟨"BatchExecutive$State", "valueOf", "(LBatchExecutive$Batch;I)I"⟩, 12), (⟨"BatchExecutive$Text", "readPhase", "()V"⟩, 7), (⟨"BatchExecutive$Text", "current", "()I"⟩, 7), (⟨"BatchExecutive$Text", "blameCurrent", "()V"⟩, 7), (⟨"BatchExecutive$Text", "blame", "(II)V"⟩, 7), (⟨"BatchExecutive$Text", "readRest", "(I)V"⟩, 7), (⟨"BatchExecutive$Text", "readNumber", "(II)I"⟩, 7), (⟨"BatchExecutive$Text", "passes", "(C)Z"⟩, 7), (⟨"BatchExecutive$Text", "readPiece", "()I"⟩, 7), (⟨"BatchExecutive$State", "unitFor", "(LBatchExecutive$Batch;I)I"⟩, 12), (⟨"BatchExecutive$State", "insertInOrder", "(I)V"⟩, 12), (⟨"BatchExecutive$State", "releasePieces", "(I)V"⟩, 12), (⟨"BatchExecutive$State", "bringToEnd", "(III)V"⟩, 12)]
theorem lw_r1 : ∀ q ∈ lw_privs_1, lw_okq q := List.forall_mem_cons.mpr ⟨lw_p0, List.forall_mem_cons.mpr ⟨lw_p1, List.forall_mem_cons.mpr ⟨lw_p2, List.forall_mem_cons.mpr ⟨lw_p3, List.forall_mem_cons.mpr ⟨lw_p4, List.forall_mem_cons.mpr ⟨lw_p5, List.forall_mem_cons.mpr ⟨lw_p6, List.forall_mem_cons.mpr ⟨lw_p7, List.forall_mem_cons.mpr ⟨lw_p8, List.forall_mem_cons.mpr ⟨lw_p9, List.forall_mem_cons.mpr ⟨lw_p10, List.forall_mem_cons.mpr ⟨lw_p11, List.forall_mem_cons.mpr ⟨lw_p12, List.forall_mem_cons.mpr ⟨lw_p13, List.forall_mem_cons.mpr ⟨lw_p14, List.forall_mem_cons.mpr ⟨lw_p15, fun _ h => absurd h List.not_mem_nil⟩⟩⟩⟩⟩⟩⟩⟩⟩⟩⟩⟩⟩⟩⟩⟩
theorem lw_p16 : lw_okq (⟨"BatchExecutive$State", "releaseUnit", "(LBatchExecutive$Batch;)V"⟩, 12) := ⟨⟨by decide +kernel, by decide +kernel⟩, List.mem_of_getElem? (i := 69) (by decide +kernel), List.mem_of_getElem? (i := 609) (by decide +kernel), List.mem_of_getElem? (i := 610) (by decide +kernel)⟩
theorem lw_p17 : lw_okq (⟨"BatchExecutive$State", "cleanUnits", "()Z"⟩, 12) := ⟨⟨by decide +kernel, by decide +kernel⟩, List.mem_of_getElem? (i := 69) (by decide +kernel), List.mem_of_getElem? (i := 657) (by decide +kernel), List.mem_of_getElem? (i := 658) (by decide +kernel)⟩
theorem lw_p18 : lw_okq (⟨"BatchExecutive$State", "moveOn", "(I)Z"⟩, 12) := ⟨⟨by decide +kernel, by decide +kernel⟩, List.mem_of_getElem? (i := 69) (by decide +kernel), List.mem_of_getElem? (i := 661) (by decide +kernel), List.mem_of_getElem? (i := 662) (by decide +kernel)⟩
theorem lw_p19 : lw_okq (⟨"BatchExecutive$State", "takeUnit", "(I)Z"⟩, 12) := ⟨⟨by decide +kernel, by decide +kernel⟩, List.mem_of_getElem? (i := 69) (by decide +kernel), List.mem_of_getElem? (i := 666) (by decide +kernel), List.mem_of_getElem? (i := 667) (by decide +kernel)⟩
theorem lw_p20 : lw_okq (⟨"BatchExecutive$State", "work", "(I)Z"⟩, 12) := ⟨⟨by decide +kernel, by decide +kernel⟩, List.mem_of_getElem? (i := 69) (by decide +kernel), List.mem_of_getElem? (i := 670) (by decide +kernel), List.mem_of_getElem? (i := 671) (by decide +kernel)⟩
theorem lw_p21 : lw_okq (⟨"BatchExecutive$State", "endPhase", "(I)V"⟩, 12) := ⟨⟨by decide +kernel, by decide +kernel⟩, List.mem_of_getElem? (i := 69) (by decide +kernel), List.mem_of_getElem? (i := 674) (by decide +kernel), List.mem_of_getElem? (i := 675) (by decide +kernel)⟩
def lw_privs_2 : List (MethodName × Nat) := [(⟨"BatchExecutive$State", "releaseUnit", "(LBatchExecutive$Batch;)V"⟩, 12), (⟨"BatchExecutive$State", "cleanUnits", "()Z"⟩, 12), (⟨"BatchExecutive$State", "moveOn", "(I)Z"⟩, 12), (⟨"BatchExecutive$State", "takeUnit", "(I)Z"⟩, 12), (⟨"BatchExecutive$State", "work", "(I)Z"⟩, 12), (⟨"BatchExecutive$State", "endPhase", "(I)V"⟩, 12)]
theorem lw_r2 : ∀ q ∈ lw_privs_2, lw_okq q := List.forall_mem_cons.mpr ⟨lw_p16, List.forall_mem_cons.mpr ⟨lw_p17, List.forall_mem_cons.mpr ⟨lw_p18, List.forall_mem_cons.mpr ⟨lw_p19, List.forall_mem_cons.mpr ⟨lw_p20, List.forall_mem_cons.mpr ⟨lw_p21, fun _ h => absurd h List.not_mem_nil⟩⟩⟩⟩⟩⟩
def lw_privs : List (MethodName × Nat) := lw_privs_1 ++ (lw_privs_2)
def lw_tbl : List Cond := k2_sels lw_privs ++ tables_1
theorem lw_privs_ok : ∀ q ∈ lw_privs, lw_okq q := by
  show ∀ q ∈ lw_privs_1 ++ (lw_privs_2), lw_okq q
  exact List.forall_mem_append.mpr ⟨lw_r1, lw_r2⟩
/-- the streams that the claim lets the run draw from -/
abbrev lw_cs : List Choice := [Jvm.Choice.named "NaN.bits"]
theorem lw_bits : nanBits ∈ lw_cs := by first | decide | exact List.mem_cons_self | simp [lw_cs, nanBits]
/-! ===== BEGIN printed: names, fields, word lists, decode rows ===== -/
def RX0 : String := "BatchExecutive$Batch"
def TX0 : u_T := fun k => match k with
  | 0 => ("BatchExecutive$Batch", "recipe", "I", false)
  | 1 => ("BatchExecutive$Batch", "version", "I", false)
  | 2 => ("BatchExecutive$Batch", "size", "I", false)
  | 3 => ("BatchExecutive$Batch", "priority", "I", false)
  | 4 => ("BatchExecutive$Batch", "before", "I", false)
  | 5 => ("BatchExecutive$Batch", "state", "I", false)
  | 6 => ("BatchExecutive$Batch", "phase", "I", false)
  | 7 => ("BatchExecutive$Batch", "ticksDone", "I", false)
  | 8 => ("BatchExecutive$Batch", "unit", "I", false)
  | _ => ("BatchExecutive$Batch", "amount", "F", false)
def tyX0 : Nat → FieldType := fun k => match k with
  | 0 => .int
  | 1 => .int
  | 2 => .int
  | 3 => .int
  | 4 => .int
  | 5 => .int
  | 6 => .int
  | 7 => .int
  | 8 => .int
  | _ => .float
theorem nmX0 : ∀ a, a < 10 → ∀ b, b < 10 → a ≠ b → (TX0 a).2.1 ≠ (TX0 b).2.1 := by decide +kernel
theorem tyX0_ok : ∀ k, k < 10 → parseFieldDescriptor (TX0 k).2.2.1 = some (tyX0 k) := by decide +kernel
abbrev cX0_init : ByteArray := prog_2_method_1_code
def yX0_init : MethodName := ⟨RX0, "<init>", "()V"⟩
abbrev cX0_reset : ByteArray := prog_2_method_2_code
def yX0_reset : MethodName := ⟨RX0, "reset", "(IIIII)V"⟩
abbrev cX0_copyFrom : ByteArray := prog_2_method_3_code
def yX0_copyFrom : MethodName := ⟨RX0, "copyFrom", "(LBatchExecutive$Batch;)V"⟩
abbrev cX0_isActive : ByteArray := prog_2_method_4_code
def yX0_isActive : MethodName := ⟨RX0, "isActive", "()Z"⟩
abbrev cX0_isAtEnd : ByteArray := prog_2_method_5_code
def yX0_isAtEnd : MethodName := ⟨RX0, "isAtEnd", "()Z"⟩
abbrev cX0_isUnderWay : ByteArray := prog_2_method_6_code
def yX0_isUnderWay : MethodName := ⟨RX0, "isUnderWay", "()Z"⟩
abbrev cX0_hasBegun : ByteArray := prog_2_method_7_code
def yX0_hasBegun : MethodName := ⟨RX0, "hasBegun", "()Z"⟩
def RX1 : String := "BatchExecutive$Book"
def TX1 : u_T := fun k => match k with
  | 0 => ("BatchExecutive$Book", "lengths", "[I", true)
  | _ => ("BatchExecutive$Book", "values", "[[I", true)
def tyX1 : Nat → FieldType := fun k => match k with
  | 0 => .array .int
  | _ => .array (.array .int)
theorem nmX1 : ∀ a, a < 2 → ∀ b, b < 2 → a ≠ b → (TX1 a).2.1 ≠ (TX1 b).2.1 := by decide +kernel
theorem tyX1_ok : ∀ k, k < 2 → parseFieldDescriptor (TX1 k).2.2.1 = some (tyX1 k) := by decide +kernel
abbrev cX1_init : ByteArray := prog_3_method_1_code
def yX1_init : MethodName := ⟨RX1, "<init>", "()V"⟩
abbrev cX1_pageOf : ByteArray := prog_3_method_2_code
def yX1_pageOf : MethodName := ⟨RX1, "pageOf", "(II)I"⟩
abbrev cX1_write : ByteArray := prog_3_method_3_code
def yX1_write : MethodName := ⟨RX1, "write", "(ILBatchExecutive$Text;)V"⟩
abbrev cX1_lengthOf : ByteArray := prog_3_method_4_code
def yX1_lengthOf : MethodName := ⟨RX1, "lengthOf", "(I)I"⟩
abbrev cX1_find : ByteArray := prog_3_method_5_code
def yX1_find : MethodName := ⟨RX1, "find", "(III)I"⟩
def RX2 : String := "BatchExecutive$Journal"
def TX2 : u_T := fun k => match k with
  | 0 => ("BatchExecutive$Journal", "ticks", "[I", true)
  | 1 => ("BatchExecutive$Journal", "batches", "[I", true)
  | 2 => ("BatchExecutive$Journal", "happenings", "[I", true)
  | 3 => ("BatchExecutive$Journal", "length", "I", false)
  | _ => ("BatchExecutive$Journal", "next", "I", false)
def tyX2 : Nat → FieldType := fun k => match k with
  | 0 => .array .int
  | 1 => .array .int
  | 2 => .array .int
  | 3 => .int
  | _ => .int
theorem nmX2 : ∀ a, a < 5 → ∀ b, b < 5 → a ≠ b → (TX2 a).2.1 ≠ (TX2 b).2.1 := by decide +kernel
theorem tyX2_ok : ∀ k, k < 5 → parseFieldDescriptor (TX2 k).2.2.1 = some (tyX2 k) := by decide +kernel
abbrev cX2_init : ByteArray := prog_4_method_1_code
def yX2_init : MethodName := ⟨RX2, "<init>", "()V"⟩
abbrev cX2_add : ByteArray := prog_4_method_2_code
def yX2_add : MethodName := ⟨RX2, "add", "(III)V"⟩
abbrev cX2_find : ByteArray := prog_4_method_3_code
def yX2_find : MethodName := ⟨RX2, "find", "(II)I"⟩
abbrev cX2_copyFrom : ByteArray := prog_4_method_4_code
def yX2_copyFrom : MethodName := ⟨RX2, "copyFrom", "(LBatchExecutive$Journal;)V"⟩
def RX3 : String := "BatchExecutive$State"
def TX3 : u_T := fun k => match k with
  | 0 => ("BatchExecutive$State", "book", "LBatchExecutive$Book;", true)
  | 1 => ("BatchExecutive$State", "units", "[LBatchExecutive$Unit;", true)
  | 2 => ("BatchExecutive$State", "batches", "[LBatchExecutive$Batch;", true)
  | 3 => ("BatchExecutive$State", "pieceHolders", "[I", true)
  | 4 => ("BatchExecutive$State", "latestVersions", "[I", true)
  | 5 => ("BatchExecutive$State", "journal", "LBatchExecutive$Journal;", true)
  | 6 => ("BatchExecutive$State", "order", "[I", true)
  | 7 => ("BatchExecutive$State", "unitCount", "I", false)
  | 8 => ("BatchExecutive$State", "batchCount", "I", false)
  | 9 => ("BatchExecutive$State", "orderCount", "I", false)
  | 10 => ("BatchExecutive$State", "ticks", "I", false)
  | _ => ("BatchExecutive$State", "cleaning", "I", false)
def tyX3 : Nat → FieldType := fun k => match k with
  | 0 => .object "BatchExecutive$Book"
  | 1 => .array (.object "BatchExecutive$Unit")
  | 2 => .array (.object "BatchExecutive$Batch")
  | 3 => .array .int
  | 4 => .array .int
  | 5 => .object "BatchExecutive$Journal"
  | 6 => .array .int
  | 7 => .int
  | 8 => .int
  | 9 => .int
  | 10 => .int
  | _ => .int
theorem nmX3 : ∀ a, a < 12 → ∀ b, b < 12 → a ≠ b → (TX3 a).2.1 ≠ (TX3 b).2.1 := by decide +kernel
theorem tyX3_ok : ∀ k, k < 12 → parseFieldDescriptor (TX3 k).2.2.1 = some (tyX3 k) := by decide +kernel
abbrev cX3_init : ByteArray := prog_5_method_1_code
def yX3_init : MethodName := ⟨RX3, "<init>", "(LBatchExecutive$Book;)V"⟩
abbrev cX3_copyFrom : ByteArray := prog_5_method_2_code
def yX3_copyFrom : MethodName := ⟨RX3, "copyFrom", "(LBatchExecutive$State;)V"⟩
abbrev cX3_hasUnit : ByteArray := prog_5_method_3_code
def yX3_hasUnit : MethodName := ⟨RX3, "hasUnit", "(I)Z"⟩
abbrev cX3_addUnit : ByteArray := prog_5_method_4_code
def yX3_addUnit : MethodName := ⟨RX3, "addUnit", "(II)I"⟩
abbrev cX3_breakUnit : ByteArray := prog_5_method_5_code
def yX3_breakUnit : MethodName := ⟨RX3, "breakUnit", "(I)I"⟩
abbrev cX3_brokenUnits : ByteArray := prog_5_method_6_code
def yX3_brokenUnits : MethodName := ⟨RX3, "brokenUnits", "()I"⟩
abbrev cX3_freeUnits : ByteArray := prog_5_method_7_code
def yX3_freeUnits : MethodName := ⟨RX3, "freeUnits", "()I"⟩
abbrev cX3_workedTicks : ByteArray := prog_5_method_8_code
def yX3_workedTicks : MethodName := ⟨RX3, "workedTicks", "()I"⟩
abbrev cX3_freePieces : ByteArray := prog_5_method_9_code
def yX3_freePieces : MethodName := ⟨RX3, "freePieces", "()I"⟩
abbrev cX3_unitFor : ByteArray := prog_5_method_10_code
def yX3_unitFor : MethodName := ⟨RX3, "unitFor", "(LBatchExecutive$Batch;I)I"⟩
abbrev cX3_releaseUnit : ByteArray := prog_5_method_11_code
def yX3_releaseUnit : MethodName := ⟨RX3, "releaseUnit", "(LBatchExecutive$Batch;)V"⟩
abbrev cX3_releasePieces : ByteArray := prog_5_method_12_code
def yX3_releasePieces : MethodName := ⟨RX3, "releasePieces", "(I)V"⟩
abbrev cX3_hasBatch : ByteArray := prog_5_method_13_code
def yX3_hasBatch : MethodName := ⟨RX3, "hasBatch", "(I)Z"⟩
abbrev cX3_addBatch : ByteArray := prog_5_method_14_code
def yX3_addBatch : MethodName := ⟨RX3, "addBatch", "(IIII)I"⟩
abbrev cX3_batchesIn : ByteArray := prog_5_method_15_code
def yX3_batchesIn : MethodName := ⟨RX3, "batchesIn", "(I)I"⟩
abbrev cX3_isGivenUp : ByteArray := prog_5_method_16_code
def yX3_isGivenUp : MethodName := ⟨RX3, "isGivenUp", "(I)Z"⟩
abbrev cX3_hasBrokenUnit : ByteArray := prog_5_method_17_code
def yX3_hasBrokenUnit : MethodName := ⟨RX3, "hasBrokenUnit", "(I)Z"⟩
abbrev cX3_ticksLeft : ByteArray := prog_5_method_18_code
def yX3_ticksLeft : MethodName := ⟨RX3, "ticksLeft", "(I)I"⟩
abbrev cX3_valueOf : ByteArray := prog_5_method_19_code
def yX3_valueOf : MethodName := ⟨RX3, "valueOf", "(LBatchExecutive$Batch;I)I"⟩
abbrev cX3_holdBatch : ByteArray := prog_5_method_20_code
def yX3_holdBatch : MethodName := ⟨RX3, "holdBatch", "(I)V"⟩
abbrev cX3_restartBatch : ByteArray := prog_5_method_21_code
def yX3_restartBatch : MethodName := ⟨RX3, "restartBatch", "(I)V"⟩
abbrev cX3_stopBatch : ByteArray := prog_5_method_22_code
def yX3_stopBatch : MethodName := ⟨RX3, "stopBatch", "(I)V"⟩
abbrev cX3_abortWithFollowing : ByteArray := prog_5_method_23_code
def yX3_abortWithFollowing : MethodName := ⟨RX3, "abortWithFollowing", "(I)I"⟩
abbrev cX3_bringToEnd : ByteArray := prog_5_method_24_code
def yX3_bringToEnd : MethodName := ⟨RX3, "bringToEnd", "(III)V"⟩
abbrev cX3_arrange : ByteArray := prog_5_method_25_code
def yX3_arrange : MethodName := ⟨RX3, "arrange", "()V"⟩
abbrev cX3_insertInOrder : ByteArray := prog_5_method_26_code
def yX3_insertInOrder : MethodName := ⟨RX3, "insertInOrder", "(I)V"⟩
abbrev cX3_passTick : ByteArray := prog_5_method_27_code
def yX3_passTick : MethodName := ⟨RX3, "passTick", "()Z"⟩
abbrev cX3_cleanUnits : ByteArray := prog_5_method_28_code
def yX3_cleanUnits : MethodName := ⟨RX3, "cleanUnits", "()Z"⟩
abbrev cX3_reasonToWait : ByteArray := prog_5_method_29_code
def yX3_reasonToWait : MethodName := ⟨RX3, "reasonToWait", "(II)I"⟩
abbrev cX3_moveOn : ByteArray := prog_5_method_30_code
def yX3_moveOn : MethodName := ⟨RX3, "moveOn", "(I)Z"⟩
abbrev cX3_takeUnit : ByteArray := prog_5_method_31_code
def yX3_takeUnit : MethodName := ⟨RX3, "takeUnit", "(I)Z"⟩
abbrev cX3_work : ByteArray := prog_5_method_32_code
def yX3_work : MethodName := ⟨RX3, "work", "(I)Z"⟩
abbrev cX3_endPhase : ByteArray := prog_5_method_33_code
def yX3_endPhase : MethodName := ⟨RX3, "endPhase", "(I)V"⟩
def RX4 : String := "BatchExecutive$Text"
def TX4 : u_T := fun k => match k with
  | 0 => ("BatchExecutive$Text", "characters", "[C", true)
  | 1 => ("BatchExecutive$Text", "values", "[[I", true)
  | 2 => ("BatchExecutive$Text", "length", "I", false)
  | 3 => ("BatchExecutive$Text", "phaseCount", "I", false)
  | 4 => ("BatchExecutive$Text", "reason", "I", false)
  | 5 => ("BatchExecutive$Text", "place", "I", false)
  | _ => ("BatchExecutive$Text", "at", "I", false)
def tyX4 : Nat → FieldType := fun k => match k with
  | 0 => .array .char
  | 1 => .array (.array .int)
  | 2 => .int
  | 3 => .int
  | 4 => .int
  | 5 => .int
  | _ => .int
theorem nmX4 : ∀ a, a < 7 → ∀ b, b < 7 → a ≠ b → (TX4 a).2.1 ≠ (TX4 b).2.1 := by decide +kernel
theorem tyX4_ok : ∀ k, k < 7 → parseFieldDescriptor (TX4 k).2.2.1 = some (tyX4 k) := by decide +kernel
abbrev cX4_init : ByteArray := prog_6_method_1_code
def yX4_init : MethodName := ⟨RX4, "<init>", "()V"⟩
abbrev cX4_append : ByteArray := prog_6_method_2_code
def yX4_append : MethodName := ⟨RX4, "append", "(C)V"⟩
abbrev cX4_read : ByteArray := prog_6_method_3_code
def yX4_read : MethodName := ⟨RX4, "read", "()V"⟩
abbrev cX4_readPhase : ByteArray := prog_6_method_4_code
def yX4_readPhase : MethodName := ⟨RX4, "readPhase", "()V"⟩
abbrev cX4_readRest : ByteArray := prog_6_method_5_code
def yX4_readRest : MethodName := ⟨RX4, "readRest", "(I)V"⟩
abbrev cX4_readNumber : ByteArray := prog_6_method_6_code
def yX4_readNumber : MethodName := ⟨RX4, "readNumber", "(II)I"⟩
abbrev cX4_readPiece : ByteArray := prog_6_method_7_code
def yX4_readPiece : MethodName := ⟨RX4, "readPiece", "()I"⟩
abbrev cX4_passes : ByteArray := prog_6_method_8_code
def yX4_passes : MethodName := ⟨RX4, "passes", "(C)Z"⟩
abbrev cX4_current : ByteArray := prog_6_method_9_code
def yX4_current : MethodName := ⟨RX4, "current", "()I"⟩
abbrev cX4_blameCurrent : ByteArray := prog_6_method_10_code
def yX4_blameCurrent : MethodName := ⟨RX4, "blameCurrent", "()V"⟩
abbrev cX4_blame : ByteArray := prog_6_method_11_code
def yX4_blame : MethodName := ⟨RX4, "blame", "(II)V"⟩
abbrev cX4_isDigit : ByteArray := prog_6_method_12_code
def yX4_isDigit : MethodName := ⟨RX4, "isDigit", "(I)Z"⟩
abbrev cX4_kindOf : ByteArray := prog_6_method_13_code
def yX4_kindOf : MethodName := ⟨RX4, "kindOf", "(I)I"⟩
def RX5 : String := "BatchExecutive$Unit"
def TX5 : u_T := fun k => match k with
  | 0 => ("BatchExecutive$Unit", "kind", "I", false)
  | 1 => ("BatchExecutive$Unit", "capacity", "I", false)
  | 2 => ("BatchExecutive$Unit", "holder", "I", false)
  | 3 => ("BatchExecutive$Unit", "cleaning", "I", false)
  | 4 => ("BatchExecutive$Unit", "worked", "I", false)
  | _ => ("BatchExecutive$Unit", "broken", "Z", false)
def tyX5 : Nat → FieldType := fun k => match k with
  | 0 => .int
  | 1 => .int
  | 2 => .int
  | 3 => .int
  | 4 => .int
  | _ => .boolean
theorem nmX5 : ∀ a, a < 6 → ∀ b, b < 6 → a ≠ b → (TX5 a).2.1 ≠ (TX5 b).2.1 := by decide +kernel
theorem tyX5_ok : ∀ k, k < 6 → parseFieldDescriptor (TX5 k).2.2.1 = some (tyX5 k) := by decide +kernel
abbrev cX5_init : ByteArray := prog_7_method_1_code
def yX5_init : MethodName := ⟨RX5, "<init>", "()V"⟩
abbrev cX5_reset : ByteArray := prog_7_method_2_code
def yX5_reset : MethodName := ⟨RX5, "reset", "(II)V"⟩
abbrev cX5_copyFrom : ByteArray := prog_7_method_3_code
def yX5_copyFrom : MethodName := ⟨RX5, "copyFrom", "(LBatchExecutive$Unit;)V"⟩
abbrev cX5_isFreeAfter : ByteArray := prog_7_method_4_code
def yX5_isFreeAfter : MethodName := ⟨RX5, "isFreeAfter", "(I)Z"⟩
def RX6 : String := "BatchExecutive"
def TX6 : u_T := fun k => match k with
  | 0 => ("BatchExecutive", "book", "LBatchExecutive$Book;", true)
  | 1 => ("BatchExecutive", "text", "LBatchExecutive$Text;", true)
  | 2 => ("BatchExecutive", "present", "LBatchExecutive$State;", true)
  | 3 => ("BatchExecutive", "trial", "LBatchExecutive$State;", true)
  | 4 => ("BatchExecutive", "past", "[LBatchExecutive$State;", true)
  | _ => ("BatchExecutive", "pastCount", "I", false)
def tyX6 : Nat → FieldType := fun k => match k with
  | 0 => .object "BatchExecutive$Book"
  | 1 => .object "BatchExecutive$Text"
  | 2 => .object "BatchExecutive$State"
  | 3 => .object "BatchExecutive$State"
  | 4 => .array (.object "BatchExecutive$State")
  | _ => .int
theorem nmX6 : ∀ a, a < 6 → ∀ b, b < 6 → a ≠ b → (TX6 a).2.1 ≠ (TX6 b).2.1 := by decide +kernel
theorem tyX6_ok : ∀ k, k < 6 → parseFieldDescriptor (TX6 k).2.2.1 = some (tyX6 k) := by decide +kernel
abbrev cX6_init : ByteArray := prog_1_method_1_code
def yX6_init : MethodName := ⟨RX6, "<init>", "()V"⟩
abbrev cX6_unit : ByteArray := prog_1_method_2_code
def yX6_unit : MethodName := ⟨RX6, "unit", "(II)I"⟩
abbrev cX6_fail : ByteArray := prog_1_method_3_code
def yX6_fail : MethodName := ⟨RX6, "fail", "(I)I"⟩
abbrev cX6_repair : ByteArray := prog_1_method_4_code
def yX6_repair : MethodName := ⟨RX6, "repair", "(I)I"⟩
abbrev cX6_unitInfo : ByteArray := prog_1_method_5_code
def yX6_unitInfo : MethodName := ⟨RX6, "unitInfo", "(II)I"⟩
abbrev cX6_shared : ByteArray := prog_1_method_6_code
def yX6_shared : MethodName := ⟨RX6, "shared", "(I)I"⟩
abbrev cX6_setCleaning : ByteArray := prog_1_method_7_code
def yX6_setCleaning : MethodName := ⟨RX6, "setCleaning", "(I)I"⟩
abbrev cX6_recipe : ByteArray := prog_1_method_8_code
def yX6_recipe : MethodName := ⟨RX6, "recipe", "(I)I"⟩
abbrev cX6_versions : ByteArray := prog_1_method_9_code
def yX6_versions : MethodName := ⟨RX6, "versions", "(I)I"⟩
abbrev cX6_phase : ByteArray := prog_1_method_10_code
def yX6_phase : MethodName := ⟨RX6, "phase", "(IIII)I"⟩
abbrev cX6_batch : ByteArray := prog_1_method_11_code
def yX6_batch : MethodName := ⟨RX6, "batch", "(IIII)I"⟩
abbrev cX6_start : ByteArray := prog_1_method_12_code
def yX6_start : MethodName := ⟨RX6, "start", "(I)I"⟩
abbrev cX6_hold : ByteArray := prog_1_method_13_code
def yX6_hold : MethodName := ⟨RX6, "hold", "(I)I"⟩
abbrev cX6_restart : ByteArray := prog_1_method_14_code
def yX6_restart : MethodName := ⟨RX6, "restart", "(I)I"⟩
abbrev cX6_stop : ByteArray := prog_1_method_15_code
def yX6_stop : MethodName := ⟨RX6, "stop", "(I)I"⟩
abbrev cX6_abort : ByteArray := prog_1_method_16_code
def yX6_abort : MethodName := ⟨RX6, "abort", "(I)I"⟩
abbrev cX6_priority : ByteArray := prog_1_method_17_code
def yX6_priority : MethodName := ⟨RX6, "priority", "(II)I"⟩
abbrev cX6_batchInfo : ByteArray := prog_1_method_18_code
def yX6_batchInfo : MethodName := ⟨RX6, "batchInfo", "(II)I"⟩
abbrev cX6_waits : ByteArray := prog_1_method_19_code
def yX6_waits : MethodName := ⟨RX6, "waits", "(I)I"⟩
abbrev cX6_inOrder : ByteArray := prog_1_method_20_code
def yX6_inOrder : MethodName := ⟨RX6, "inOrder", "(I)I"⟩
abbrev cX6_run : ByteArray := prog_1_method_21_code
def yX6_run : MethodName := ⟨RX6, "run", "(I)I"⟩
abbrev cX6_ticksTo : ByteArray := prog_1_method_22_code
def yX6_ticksTo : MethodName := ⟨RX6, "ticksTo", "(I)I"⟩
abbrev cX6_count : ByteArray := prog_1_method_23_code
def yX6_count : MethodName := ⟨RX6, "count", "(I)I"⟩
abbrev cX6_event : ByteArray := prog_1_method_24_code
def yX6_event : MethodName := ⟨RX6, "event", "(II)I"⟩
abbrev cX6_undo : ByteArray := prog_1_method_25_code
def yX6_undo : MethodName := ⟨RX6, "undo", "()I"⟩
abbrev cX6_type : ByteArray := prog_1_method_26_code
def yX6_type : MethodName := ⟨RX6, "type", "(I)I"⟩
abbrev cX6_clearText : ByteArray := prog_1_method_27_code
def yX6_clearText : MethodName := ⟨RX6, "clearText", "()I"⟩
abbrev cX6_fault : ByteArray := prog_1_method_28_code
def yX6_fault : MethodName := ⟨RX6, "fault", "(I)I"⟩
abbrev cX6_record : ByteArray := prog_1_method_29_code
def yX6_record : MethodName := ⟨RX6, "record", "()V"⟩
abbrev cX6_isUnit : ByteArray := prog_1_method_30_code
def yX6_isUnit : MethodName := ⟨RX6, "isUnit", "(I)Z"⟩
abbrev cX6_isBatch : ByteArray := prog_1_method_31_code
def yX6_isBatch : MethodName := ⟨RX6, "isBatch", "(I)Z"⟩
abbrev cX6_isPiece : ByteArray := prog_1_method_32_code
def yX6_isPiece : MethodName := ⟨RX6, "isPiece", "(I)Z"⟩
abbrev cX6_isRecipe : ByteArray := prog_1_method_33_code
def yX6_isRecipe : MethodName := ⟨RX6, "isRecipe", "(I)Z"⟩
abbrev cX6_isPriority : ByteArray := prog_1_method_34_code
def yX6_isPriority : MethodName := ⟨RX6, "isPriority", "(I)Z"⟩
abbrev cX6_isWithin : ByteArray := prog_1_method_35_code
def yX6_isWithin : MethodName := ⟨RX6, "isWithin", "(III)Z"⟩
abbrev cX6_orNotFound : ByteArray := prog_1_method_36_code
def yX6_orNotFound : MethodName := ⟨RX6, "orNotFound", "(I)I"⟩
abbrev cX6_oneIf : ByteArray := prog_1_method_37_code
def yX6_oneIf : MethodName := ⟨RX6, "oneIf", "(Z)I"⟩
abbrev cX6_bitsOf : ByteArray := prog_1_method_38_code
def yX6_bitsOf : MethodName := ⟨RX6, "bitsOf", "(F)I"⟩
def RX7 : String := "BatchExecutiveModel"
def TX7 : u_T := fun k => match k with
  | _ => ("", "", "", false)
def tyX7 : Nat → FieldType := fun k => match k with
  | _ => .int
theorem nmX7 : ∀ a, a < 0 → ∀ b, b < 0 → a ≠ b → (TX7 a).2.1 ≠ (TX7 b).2.1 := by decide +kernel
theorem tyX7_ok : ∀ k, k < 0 → parseFieldDescriptor (TX7 k).2.2.1 = some (tyX7 k) := by decide +kernel
def RJ10 : String := "java/lang/System"
def TJ10 : u_T := fun k => match k with
  | _ => ("", "", "", false)
def tyJ10 : Nat → FieldType := fun k => match k with
  | _ => .int
theorem nmJ10 : ∀ a, a < 0 → ∀ b, b < 0 → a ≠ b → (TJ10 a).2.1 ≠ (TJ10 b).2.1 := by decide +kernel
theorem tyJ10_ok : ∀ k, k < 0 → parseFieldDescriptor (TJ10 k).2.2.1 = some (tyJ10 k) := by decide +kernel
def RL : String := "BatchExecutiveLaw"
abbrev cL_lot : ByteArray := method_2_code
def yL_lot : MethodName := ⟨RL, "lot", "([II)I"⟩
abbrev cL_low : ByteArray := method_3_code
def yL_low : MethodName := ⟨RL, "low", "(II)I"⟩
abbrev cL_sound : ByteArray := method_4_code
def yL_sound : MethodName := ⟨RL, "sound", "(LBatchExecutive;)Z"⟩
abbrev cL_journal : ByteArray := method_5_code
def yL_journal : MethodName := ⟨RL, "journal", "(LBatchExecutive;)Z"⟩
abbrev cL_put : ByteArray := method_6_code
def yL_put : MethodName := ⟨RL, "put", "(LBatchExecutive;I)I"⟩
abbrev cL_writes : ByteArray := method_7_code
def yL_writes : MethodName := ⟨RL, "writes", "(LBatchExecutive;II)Z"⟩
abbrev cL_commands : ByteArray := method_8_code
def yL_commands : MethodName := ⟨RL, "commands", "(LBatchExecutive;II)Z"⟩
abbrev cL_units : ByteArray := method_9_code
def yL_units : MethodName := ⟨RL, "units", "(LBatchExecutive;II)Z"⟩
abbrev cL_ticks : ByteArray := method_10_code
def yL_ticks : MethodName := ⟨RL, "ticks", "(LBatchExecutive;II)Z"⟩
abbrev cL_refuses : ByteArray := method_11_code
def yL_refuses : MethodName := ⟨RL, "refuses", "(LBatchExecutive;)Z"⟩
abbrev cL_law : ByteArray := code
def yL_law : MethodName := ⟨RL, "law", "([I)Z"⟩
abbrev vwCl : List vw_C := [(RX0, TX0, 10), (RX1, TX1, 2), (RX2, TX2, 5), (RX3, TX3, 12), (RX4, TX4, 7), (RX5, TX5, 6), (RX6, TX6, 6)]
