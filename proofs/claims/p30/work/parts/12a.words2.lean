/-! ===== words that no link names: natives, Object.<init>, arrays, classes ===== -/
set_option maxRecDepth 20000 in
theorem xnX3_63 : ∀ w ∈ ([.methodLink RX3 63 ⟨"java/lang/System", "arraycopy", "(Ljava/lang/Object;ILjava/lang/Object;II)V"⟩, .native ⟨"java/lang/System", "arraycopy", "(Ljava/lang/Object;ILjava/lang/Object;II)V"⟩, .static ⟨"java/lang/System", "arraycopy", "(Ljava/lang/Object;ILjava/lang/Object;II)V"⟩, .initialized "java/lang/System"] : List Cond), w ∈ xw := xw_of _ [305, 307, 306, 30] (by decide +kernel) (by decide +kernel)
set_option maxRecDepth 20000 in
theorem xnX2_28 : ∀ w ∈ ([.methodLink RX2 28 ⟨"java/lang/System", "arraycopy", "(Ljava/lang/Object;ILjava/lang/Object;II)V"⟩, .native ⟨"java/lang/System", "arraycopy", "(Ljava/lang/Object;ILjava/lang/Object;II)V"⟩, .static ⟨"java/lang/System", "arraycopy", "(Ljava/lang/Object;ILjava/lang/Object;II)V"⟩, .initialized "java/lang/System"] : List Cond), w ∈ xw := xw_of _ [312, 307, 306, 30] (by decide +kernel) (by decide +kernel)
set_option maxRecDepth 20000 in
theorem xnX1_27 : ∀ w ∈ ([.methodLink RX1 27 ⟨"java/lang/System", "arraycopy", "(Ljava/lang/Object;ILjava/lang/Object;II)V"⟩, .native ⟨"java/lang/System", "arraycopy", "(Ljava/lang/Object;ILjava/lang/Object;II)V"⟩, .static ⟨"java/lang/System", "arraycopy", "(Ljava/lang/Object;ILjava/lang/Object;II)V"⟩, .initialized "java/lang/System"] : List Cond), w ∈ xw := xw_of _ [580, 307, 306, 30] (by decide +kernel) (by decide +kernel)
theorem oi_1 : Cond.instanceMethod objectInit ∈ xw := (xwc1 _ (List.mem_of_getElem? (i := 7) rfl))
theorem oi_2 : Cond.code objectInit object_method_1_code 1 none ∈ xw := (xwc1 _ (List.mem_of_getElem? (i := 8) rfl))
theorem aw_int : Cond.arrayClass .int ∈ xw := (xwc1 _ (List.mem_of_getElem? (i := 19) rfl))
theorem aw_char : Cond.arrayClass .char ∈ xw := (xwc2 _ (List.mem_of_getElem? (i := 15) rfl))
theorem cqL_10 : Cond.classLink RL 10 "BatchExecutive" ∈ xw := (xwc1 _ (List.mem_of_getElem? (i := 1) rfl))
theorem cqX6_7 : Cond.classLink RX6 7 "BatchExecutive$Book" ∈ xw := (xwc1 _ (List.mem_of_getElem? (i := 9) rfl))
theorem cqX6_16 : Cond.classLink RX6 16 "BatchExecutive$Text" ∈ xw := (xwc1 _ (List.mem_of_getElem? (i := 20) rfl))
theorem cqX6_23 : Cond.classLink RX6 23 "BatchExecutive$State" ∈ xw := (xwc2 _ (List.mem_of_getElem? (i := 16) rfl))
theorem cqX3_9 : Cond.classLink RX3 9 "BatchExecutive$Unit" ∈ xw := (xwc2 _ (List.mem_of_getElem? (i := 22) rfl))
theorem cqX3_17 : Cond.classLink RX3 17 "BatchExecutive$Batch" ∈ xw := (xwc2 _ (List.mem_of_getElem? (i := 23) rfl))
theorem cqX3_30 : Cond.classLink RX3 30 "BatchExecutive$Journal" ∈ xw := (xwc2 _ (List.mem_of_getElem? (i := 24) rfl))
