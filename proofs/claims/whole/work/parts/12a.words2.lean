/-! ===== words that no link names: natives, Object.<init>, arrays, classes ===== -/
set_option maxRecDepth 20000 in
theorem xnX3_63 : ∀ w ∈ ([.methodLink RX3 63 ⟨"java/lang/System", "arraycopy", "(Ljava/lang/Object;ILjava/lang/Object;II)V"⟩, .native ⟨"java/lang/System", "arraycopy", "(Ljava/lang/Object;ILjava/lang/Object;II)V"⟩, .static ⟨"java/lang/System", "arraycopy", "(Ljava/lang/Object;ILjava/lang/Object;II)V"⟩, .initialized "java/lang/System"] : List Cond), w ∈ xw := xw_of _ [347, 349, 348, 71] (by decide +kernel) (by decide +kernel)
set_option maxRecDepth 20000 in
theorem xnX2_28 : ∀ w ∈ ([.methodLink RX2 28 ⟨"java/lang/System", "arraycopy", "(Ljava/lang/Object;ILjava/lang/Object;II)V"⟩, .native ⟨"java/lang/System", "arraycopy", "(Ljava/lang/Object;ILjava/lang/Object;II)V"⟩, .static ⟨"java/lang/System", "arraycopy", "(Ljava/lang/Object;ILjava/lang/Object;II)V"⟩, .initialized "java/lang/System"] : List Cond), w ∈ xw := xw_of _ [354, 349, 348, 71] (by decide +kernel) (by decide +kernel)
set_option maxRecDepth 20000 in
theorem xnX1_27 : ∀ w ∈ ([.methodLink RX1 27 ⟨"java/lang/System", "arraycopy", "(Ljava/lang/Object;ILjava/lang/Object;II)V"⟩, .native ⟨"java/lang/System", "arraycopy", "(Ljava/lang/Object;ILjava/lang/Object;II)V"⟩, .static ⟨"java/lang/System", "arraycopy", "(Ljava/lang/Object;ILjava/lang/Object;II)V"⟩, .initialized "java/lang/System"] : List Cond), w ∈ xw := xw_of _ [489, 349, 348, 71] (by decide +kernel) (by decide +kernel)
set_option maxRecDepth 20000 in
theorem xnJxf58ca_74 : ∀ w ∈ ([.methodLink RJxf58ca 74 ⟨"java/lang/Float", "floatToRawIntBits", "(F)I"⟩, .native ⟨"java/lang/Float", "floatToRawIntBits", "(F)I"⟩, .static ⟨"java/lang/Float", "floatToRawIntBits", "(F)I"⟩, .initialized "java/lang/Float"] : List Cond), w ∈ xw := xw_of _ [922, 924, 923, 72] (by decide +kernel) (by decide +kernel)
set_option maxRecDepth 20000 in
theorem xnX7_173 : ∀ w ∈ ([.methodLink RX7 173 ⟨"java/lang/Float", "intBitsToFloat", "(I)F"⟩, .native ⟨"java/lang/Float", "intBitsToFloat", "(I)F"⟩, .static ⟨"java/lang/Float", "intBitsToFloat", "(I)F"⟩, .initialized "java/lang/Float"] : List Cond), w ∈ xw := xw_of _ [982, 984, 983, 72] (by decide +kernel) (by decide +kernel)
theorem oi_1 : Cond.instanceMethod objectInit ∈ xw := (xwc2 _ (List.mem_of_getElem? (i := 19) rfl))
theorem oi_2 : Cond.code objectInit object_method_1_code 1 none ∈ xw := (xwc2 _ (List.mem_of_getElem? (i := 20) rfl))
theorem aw_int : Cond.arrayClass .int ∈ xw := (xwc3 _ (List.mem_of_getElem? (i := 1) rfl))
theorem aw_char : Cond.arrayClass .char ∈ xw := (xwc3 _ (List.mem_of_getElem? (i := 27) rfl))
theorem cqL_7 : Cond.classLink RL 7 "BatchExecutive" ∈ xw := (xwc2 _ (List.mem_of_getElem? (i := 13) rfl))
theorem cqX6_7 : Cond.classLink RX6 7 "BatchExecutive$Book" ∈ xw := (xwc2 _ (List.mem_of_getElem? (i := 21) rfl))
theorem cqX6_16 : Cond.classLink RX6 16 "BatchExecutive$Text" ∈ xw := (xwc3 _ (List.mem_of_getElem? (i := 2) rfl))
theorem cqX6_23 : Cond.classLink RX6 23 "BatchExecutive$State" ∈ xw := (xwc3 _ (List.mem_of_getElem? (i := 28) rfl))
theorem cqX3_9 : Cond.classLink RX3 9 "BatchExecutive$Unit" ∈ xw := (xwc4 _ (List.mem_of_getElem? (i := 4) rfl))
theorem cqX3_17 : Cond.classLink RX3 17 "BatchExecutive$Batch" ∈ xw := (xwc4 _ (List.mem_of_getElem? (i := 5) rfl))
theorem cqX3_30 : Cond.classLink RX3 30 "BatchExecutive$Journal" ∈ xw := (xwc4 _ (List.mem_of_getElem? (i := 6) rfl))
theorem cqL_10 : Cond.classLink RL 10 "BatchExecutiveModel" ∈ xw := (xwc21 _ (List.mem_of_getElem? (i := 4) rfl))
