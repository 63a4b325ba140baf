section
-- ===== PART A: goes FIRST, ahead of the names: the tables' words, and 'selects' of the private methods out of them =====
/-- a private method of a class that the tables say can be made, by its rows of tables_1 -/
def lw_okq (q : MethodName × Nat) : Prop := (q.1.cls ≠ "java/lang/invoke/MethodHandle" ∧ q.1.cls ≠ "java/lang/invoke/VarHandle") ∧ Cond.instantiable q.1.cls q.2 ∈ tables_1 ∧ Cond.privateMethod q.1 ∈ tables_1 ∧ Cond.instanceMethod q.1 ∈ tables_1
theorem lw_p0 : lw_okq (⟨"BatchExecutive", "record", "()V"⟩, 6) := ⟨⟨by decide +kernel, by decide +kernel⟩, List.mem_of_getElem? (i := 12) (by decide +kernel), List.mem_of_getElem? (i := 272) (by decide +kernel), List.mem_of_getElem? (i := 273) (by decide +kernel)⟩
theorem lw_p1 : lw_okq (⟨"BatchExecutive", "isUnit", "(I)Z"⟩, 6) := ⟨⟨by decide +kernel, by decide +kernel⟩, List.mem_of_getElem? (i := 12) (by decide +kernel), List.mem_of_getElem? (i := 308) (by decide +kernel), List.mem_of_getElem? (i := 309) (by decide +kernel)⟩
theorem lw_p2 : lw_okq (⟨"BatchExecutive$State", "releasePieces", "(I)V"⟩, 12) := ⟨⟨by decide +kernel, by decide +kernel⟩, List.mem_of_getElem? (i := 73) (by decide +kernel), List.mem_of_getElem? (i := 324) (by decide +kernel), List.mem_of_getElem? (i := 325) (by decide +kernel)⟩
theorem lw_p3 : lw_okq (⟨"BatchExecutive$Text", "readPhase", "()V"⟩, 7) := ⟨⟨by decide +kernel, by decide +kernel⟩, List.mem_of_getElem? (i := 38) (by decide +kernel), List.mem_of_getElem? (i := 373) (by decide +kernel), List.mem_of_getElem? (i := 374) (by decide +kernel)⟩
theorem lw_p4 : lw_okq (⟨"BatchExecutive$Text", "current", "()I"⟩, 7) := ⟨⟨by decide +kernel, by decide +kernel⟩, List.mem_of_getElem? (i := 38) (by decide +kernel), List.mem_of_getElem? (i := 377) (by decide +kernel), List.mem_of_getElem? (i := 378) (by decide +kernel)⟩
theorem lw_p5 : lw_okq (⟨"BatchExecutive$Text", "blameCurrent", "()V"⟩, 7) := ⟨⟨by decide +kernel, by decide +kernel⟩, List.mem_of_getElem? (i := 38) (by decide +kernel), List.mem_of_getElem? (i := 384) (by decide +kernel), List.mem_of_getElem? (i := 385) (by decide +kernel)⟩
theorem lw_p6 : lw_okq (⟨"BatchExecutive$Text", "blame", "(II)V"⟩, 7) := ⟨⟨by decide +kernel, by decide +kernel⟩, List.mem_of_getElem? (i := 38) (by decide +kernel), List.mem_of_getElem? (i := 388) (by decide +kernel), List.mem_of_getElem? (i := 389) (by decide +kernel)⟩
theorem lw_p7 : lw_okq (⟨"BatchExecutive$Text", "readRest", "(I)V"⟩, 7) := ⟨⟨by decide +kernel, by decide +kernel⟩, List.mem_of_getElem? (i := 38) (by decide +kernel), List.mem_of_getElem? (i := 392) (by decide +kernel), List.mem_of_getElem? (i := 393) (by decide +kernel)⟩
theorem lw_p8 : lw_okq (⟨"BatchExecutive$Text", "readNumber", "(II)I"⟩, 7) := ⟨⟨by decide +kernel, by decide +kernel⟩, List.mem_of_getElem? (i := 38) (by decide +kernel), List.mem_of_getElem? (i := 396) (by decide +kernel), List.mem_of_getElem? (i := 397) (by decide +kernel)⟩
theorem lw_p9 : lw_okq (⟨"BatchExecutive$Text", "passes", "(C)Z"⟩, 7) := ⟨⟨by decide +kernel, by decide +kernel⟩, List.mem_of_getElem? (i := 38) (by decide +kernel), List.mem_of_getElem? (i := 403) (by decide +kernel), List.mem_of_getElem? (i := 404) (by decide +kernel)⟩
theorem lw_p10 : lw_okq (⟨"BatchExecutive$Text", "readPiece", "()I"⟩, 7) := ⟨⟨by decide +kernel, by decide +kernel⟩, List.mem_of_getElem? (i := 38) (by decide +kernel), List.mem_of_getElem? (i := 407) (by decide +kernel), List.mem_of_getElem? (i := 408) (by decide +kernel)⟩
theorem lw_p11 : lw_okq (⟨"BatchExecutive", "isBatch", "(I)Z"⟩, 6) := ⟨⟨by decide +kernel, by decide +kernel⟩, List.mem_of_getElem? (i := 12) (by decide +kernel), List.mem_of_getElem? (i := 439) (by decide +kernel), List.mem_of_getElem? (i := 440) (by decide +kernel)⟩
theorem lw_p12 : lw_okq (⟨"BatchExecutive$State", "valueOf", "(LBatchExecutive$Batch;I)I"⟩, 12) := ⟨⟨by decide +kernel, by decide +kernel⟩, List.mem_of_getElem? (i := 73) (by decide +kernel), List.mem_of_getElem? (i := 481) (by decide +kernel), List.mem_of_getElem? (i := 482) (by decide +kernel)⟩
theorem lw_p13 : lw_okq (⟨"BatchExecutive$State", "bringToEnd", "(III)V"⟩, 12) := ⟨⟨by decide +kernel, by decide +kernel⟩, List.mem_of_getElem? (i := 73) (by decide +kernel), List.mem_of_getElem? (i := 503) (by decide +kernel), List.mem_of_getElem? (i := 504) (by decide +kernel)⟩
theorem lw_p14 : lw_okq (⟨"BatchExecutive$State", "releaseUnit", "(LBatchExecutive$Batch;)V"⟩, 12) := ⟨⟨by decide +kernel, by decide +kernel⟩, List.mem_of_getElem? (i := 73) (by decide +kernel), List.mem_of_getElem? (i := 507) (by decide +kernel), List.mem_of_getElem? (i := 508) (by decide +kernel)⟩
theorem lw_p15 : lw_okq (⟨"BatchExecutive$State", "unitFor", "(LBatchExecutive$Batch;I)I"⟩, 12) := ⟨⟨by decide +kernel, by decide +kernel⟩, List.mem_of_getElem? (i := 73) (by decide +kernel), List.mem_of_getElem? (i := 549) (by decide +kernel), List.mem_of_getElem? (i := 550) (by decide +kernel)⟩
def lw_privs_1 : List (MethodName × Nat) := [(⟨"BatchExecutive", "record", "()V"⟩, 6), (⟨"BatchExecutive", "isUnit", "(I)Z"⟩, 6), (⟨"BatchExecutive$State", "releasePieces", "(I)V"⟩, 12), (⟨"BatchExecutive$Text", "readPhase", "()V"⟩, 7), (⟨"BatchExecutive$Text", "current", "()I"⟩, 7), (⟨"BatchExecutive$Text", "blameCurrent", "()V"⟩, 7), (⟨"BatchExecutive$Text", "blame", "(II)V"⟩, 7), (⟨"BatchExecutive$Text", "readRest", "(I)V"⟩, 7), (⟨"BatchExecutive$Text", "readNumber", "(II)I"⟩, 7), (⟨"BatchExecutive$Text", "passes", "(C)Z"⟩, 7), (⟨"BatchExecutive$Text", "readPiece", "()I"⟩, 7), (⟨"BatchExecutive", "isBatch", "(I)Z"⟩, 6), (⟨"BatchExecutive$State", "valueOf", "(LBatchExecutive$Batch;I)I"⟩, 12), (⟨"BatchExecutive$State", "bringToEnd", "(III)V"⟩, 12), (⟨"BatchExecutive$State", "releaseUnit", "(LBatchExecutive$Batch;)V"⟩, 12), (⟨"BatchExecutive$State", "unitFor", "(LBatchExecutive$Batch;I)I"⟩, 12)]
theorem lw_r1 : ∀ q ∈ lw_privs_1, lw_okq q := List.forall_mem_cons.mpr ⟨lw_p0, List.forall_mem_cons.mpr ⟨lw_p1, List.forall_mem_cons.mpr ⟨lw_p2, List.forall_mem_cons.mpr ⟨lw_p3, List.forall_mem_cons.mpr ⟨lw_p4, List.forall_mem_cons.mpr ⟨lw_p5, List.forall_mem_cons.mpr ⟨lw_p6, List.forall_mem_cons.mpr ⟨lw_p7, List.forall_mem_cons.mpr ⟨lw_p8, List.forall_mem_cons.mpr ⟨lw_p9, List.forall_mem_cons.mpr ⟨lw_p10, List.forall_mem_cons.mpr ⟨lw_p11, List.forall_mem_cons.mpr ⟨lw_p12, List.forall_mem_cons.mpr ⟨lw_p13, List.forall_mem_cons.mpr ⟨lw_p14, List.forall_mem_cons.mpr ⟨lw_p15, fun _ h => absurd h List.not_mem_nil⟩⟩⟩⟩⟩⟩⟩⟩⟩⟩⟩⟩⟩⟩⟩⟩
theorem lw_p16 : lw_okq (⟨"BatchExecutive$State", "insertInOrder", "(I)V"⟩, 12) := ⟨⟨by decide +kernel, by decide +kernel⟩, List.mem_of_getElem? (i := 73) (by decide +kernel), List.mem_of_getElem? (i := 562) (by decide +kernel), List.mem_of_getElem? (i := 563) (by decide +kernel)⟩
theorem lw_p17 : lw_okq (⟨"BatchExecutive$State", "cleanUnits", "()Z"⟩, 12) := ⟨⟨by decide +kernel, by decide +kernel⟩, List.mem_of_getElem? (i := 73) (by decide +kernel), List.mem_of_getElem? (i := 575) (by decide +kernel), List.mem_of_getElem? (i := 576) (by decide +kernel)⟩
theorem lw_p18 : lw_okq (⟨"BatchExecutive$State", "moveOn", "(I)Z"⟩, 12) := ⟨⟨by decide +kernel, by decide +kernel⟩, List.mem_of_getElem? (i := 73) (by decide +kernel), List.mem_of_getElem? (i := 579) (by decide +kernel), List.mem_of_getElem? (i := 580) (by decide +kernel)⟩
theorem lw_p19 : lw_okq (⟨"BatchExecutive$State", "takeUnit", "(I)Z"⟩, 12) := ⟨⟨by decide +kernel, by decide +kernel⟩, List.mem_of_getElem? (i := 73) (by decide +kernel), List.mem_of_getElem? (i := 584) (by decide +kernel), List.mem_of_getElem? (i := 585) (by decide +kernel)⟩
theorem lw_p20 : lw_okq (⟨"BatchExecutive$State", "work", "(I)V"⟩, 12) := ⟨⟨by decide +kernel, by decide +kernel⟩, List.mem_of_getElem? (i := 73) (by decide +kernel), List.mem_of_getElem? (i := 588) (by decide +kernel), List.mem_of_getElem? (i := 589) (by decide +kernel)⟩
theorem lw_p21 : lw_okq (⟨"BatchExecutive$State", "endPhase", "(I)V"⟩, 12) := ⟨⟨by decide +kernel, by decide +kernel⟩, List.mem_of_getElem? (i := 73) (by decide +kernel), List.mem_of_getElem? (i := 592) (by decide +kernel), List.mem_of_getElem? (i := 593) (by decide +kernel)⟩
theorem lw_p22 : lw_okq (⟨"BatchExecutiveModel", "keep", "()V"⟩, 11) := ⟨⟨by decide +kernel, by decide +kernel⟩, List.mem_of_getElem? (i := 645) (by decide +kernel), List.mem_of_getElem? (i := 692) (by decide +kernel), List.mem_of_getElem? (i := 693) (by decide +kernel)⟩
theorem lw_p23 : lw_okq (⟨"BatchExecutiveModel", "putUnit", "(III)V"⟩, 11) := ⟨⟨by decide +kernel, by decide +kernel⟩, List.mem_of_getElem? (i := 645) (by decide +kernel), List.mem_of_getElem? (i := 699) (by decide +kernel), List.mem_of_getElem? (i := 700) (by decide +kernel)⟩
theorem lw_p24 : lw_okq (⟨"BatchExecutiveModel", "isUnit", "(I)Z"⟩, 11) := ⟨⟨by decide +kernel, by decide +kernel⟩, List.mem_of_getElem? (i := 645) (by decide +kernel), List.mem_of_getElem? (i := 707) (by decide +kernel), List.mem_of_getElem? (i := 708) (by decide +kernel)⟩
theorem lw_p25 : lw_okq (⟨"BatchExecutiveModel", "ofUnit", "(II)I"⟩, 11) := ⟨⟨by decide +kernel, by decide +kernel⟩, List.mem_of_getElem? (i := 645) (by decide +kernel), List.mem_of_getElem? (i := 711) (by decide +kernel), List.mem_of_getElem? (i := 712) (by decide +kernel)⟩
theorem lw_p26 : lw_okq (⟨"BatchExecutiveModel", "isActive", "(I)Z"⟩, 11) := ⟨⟨by decide +kernel, by decide +kernel⟩, List.mem_of_getElem? (i := 645) (by decide +kernel), List.mem_of_getElem? (i := 715) (by decide +kernel), List.mem_of_getElem? (i := 716) (by decide +kernel)⟩
theorem lw_p27 : lw_okq (⟨"BatchExecutiveModel", "of", "(II)I"⟩, 11) := ⟨⟨by decide +kernel, by decide +kernel⟩, List.mem_of_getElem? (i := 645) (by decide +kernel), List.mem_of_getElem? (i := 719) (by decide +kernel), List.mem_of_getElem? (i := 720) (by decide +kernel)⟩
theorem lw_p28 : lw_okq (⟨"BatchExecutiveModel", "holds", "(I)V"⟩, 11) := ⟨⟨by decide +kernel, by decide +kernel⟩, List.mem_of_getElem? (i := 645) (by decide +kernel), List.mem_of_getElem? (i := 723) (by decide +kernel), List.mem_of_getElem? (i := 724) (by decide +kernel)⟩
theorem lw_p29 : lw_okq (⟨"BatchExecutiveModel", "releaseShared", "(I)V"⟩, 11) := ⟨⟨by decide +kernel, by decide +kernel⟩, List.mem_of_getElem? (i := 645) (by decide +kernel), List.mem_of_getElem? (i := 727) (by decide +kernel), List.mem_of_getElem? (i := 728) (by decide +kernel)⟩
theorem lw_p30 : lw_okq (⟨"BatchExecutiveModel", "put", "(III)V"⟩, 11) := ⟨⟨by decide +kernel, by decide +kernel⟩, List.mem_of_getElem? (i := 645) (by decide +kernel), List.mem_of_getElem? (i := 731) (by decide +kernel), List.mem_of_getElem? (i := 732) (by decide +kernel)⟩
theorem lw_p31 : lw_okq (⟨"BatchExecutiveModel", "note", "(II)V"⟩, 11) := ⟨⟨by decide +kernel, by decide +kernel⟩, List.mem_of_getElem? (i := 645) (by decide +kernel), List.mem_of_getElem? (i := 735) (by decide +kernel), List.mem_of_getElem? (i := 736) (by decide +kernel)⟩
def lw_privs_2 : List (MethodName × Nat) := [(⟨"BatchExecutive$State", "insertInOrder", "(I)V"⟩, 12), (⟨"BatchExecutive$State", "cleanUnits", "()Z"⟩, 12), (⟨"BatchExecutive$State", "moveOn", "(I)Z"⟩, 12), (⟨"BatchExecutive$State", "takeUnit", "(I)Z"⟩, 12), (⟨"BatchExecutive$State", "work", "(I)V"⟩, 12), (⟨"BatchExecutive$State", "endPhase", "(I)V"⟩, 12), (⟨"BatchExecutiveModel", "keep", "()V"⟩, 11), (⟨"BatchExecutiveModel", "putUnit", "(III)V"⟩, 11), (⟨"BatchExecutiveModel", "isUnit", "(I)Z"⟩, 11), (⟨"BatchExecutiveModel", "ofUnit", "(II)I"⟩, 11), (⟨"BatchExecutiveModel", "isActive", "(I)Z"⟩, 11), (⟨"BatchExecutiveModel", "of", "(II)I"⟩, 11), (⟨"BatchExecutiveModel", "holds", "(I)V"⟩, 11), (⟨"BatchExecutiveModel", "releaseShared", "(I)V"⟩, 11), (⟨"BatchExecutiveModel", "put", "(III)V"⟩, 11), (⟨"BatchExecutiveModel", "note", "(II)V"⟩, 11)]
theorem lw_r2 : ∀ q ∈ lw_privs_2, lw_okq q := List.forall_mem_cons.mpr ⟨lw_p16, List.forall_mem_cons.mpr ⟨lw_p17, List.forall_mem_cons.mpr ⟨lw_p18, List.forall_mem_cons.mpr ⟨lw_p19, List.forall_mem_cons.mpr ⟨lw_p20, List.forall_mem_cons.mpr ⟨lw_p21, List.forall_mem_cons.mpr ⟨lw_p22, List.forall_mem_cons.mpr ⟨lw_p23, List.forall_mem_cons.mpr ⟨lw_p24, List.forall_mem_cons.mpr ⟨lw_p25, List.forall_mem_cons.mpr ⟨lw_p26, List.forall_mem_cons.mpr ⟨lw_p27, List.forall_mem_cons.mpr ⟨lw_p28, List.forall_mem_cons.mpr ⟨lw_p29, List.forall_mem_cons.mpr ⟨lw_p30, List.forall_mem_cons.mpr ⟨lw_p31, fun _ h => absurd h List.not_mem_nil⟩⟩⟩⟩⟩⟩⟩⟩⟩⟩⟩⟩⟩⟩⟩⟩
theorem lw_p32 : lw_okq (⟨"BatchExecutiveModel", "broken", "()I"⟩, 11) := ⟨⟨by decide +kernel, by decide +kernel⟩, List.mem_of_getElem? (i := 645) (by decide +kernel), List.mem_of_getElem? (i := 743) (by decide +kernel), List.mem_of_getElem? (i := 744) (by decide +kernel)⟩
theorem lw_p33 : lw_okq (⟨"BatchExecutiveModel", "isFree", "(I)Z"⟩, 11) := ⟨⟨by decide +kernel, by decide +kernel⟩, List.mem_of_getElem? (i := 645) (by decide +kernel), List.mem_of_getElem? (i := 751) (by decide +kernel), List.mem_of_getElem? (i := 752) (by decide +kernel)⟩
theorem lw_p34 : lw_okq (⟨"BatchExecutiveModel", "readText", "()I"⟩, 11) := ⟨⟨by decide +kernel, by decide +kernel⟩, List.mem_of_getElem? (i := 645) (by decide +kernel), List.mem_of_getElem? (i := 770) (by decide +kernel), List.mem_of_getElem? (i := 771) (by decide +kernel)⟩
theorem lw_p35 : lw_okq (⟨"BatchExecutiveModel", "readPhase", "(I)Z"⟩, 11) := ⟨⟨by decide +kernel, by decide +kernel⟩, List.mem_of_getElem? (i := 645) (by decide +kernel), List.mem_of_getElem? (i := 774) (by decide +kernel), List.mem_of_getElem? (i := 775) (by decide +kernel)⟩
theorem lw_p36 : lw_okq (⟨"BatchExecutiveModel", "here", "()I"⟩, 11) := ⟨⟨by decide +kernel, by decide +kernel⟩, List.mem_of_getElem? (i := 645) (by decide +kernel), List.mem_of_getElem? (i := 778) (by decide +kernel), List.mem_of_getElem? (i := 779) (by decide +kernel)⟩
theorem lw_p37 : lw_okq (⟨"BatchExecutiveModel", "isFault", "()Z"⟩, 11) := ⟨⟨by decide +kernel, by decide +kernel⟩, List.mem_of_getElem? (i := 645) (by decide +kernel), List.mem_of_getElem? (i := 785) (by decide +kernel), List.mem_of_getElem? (i := 786) (by decide +kernel)⟩
theorem lw_p38 : lw_okq (⟨"BatchExecutiveModel", "readNumber", "(II)Z"⟩, 11) := ⟨⟨by decide +kernel, by decide +kernel⟩, List.mem_of_getElem? (i := 645) (by decide +kernel), List.mem_of_getElem? (i := 789) (by decide +kernel), List.mem_of_getElem? (i := 790) (by decide +kernel)⟩
theorem lw_p39 : lw_okq (⟨"BatchExecutiveModel", "takes", "(I)Z"⟩, 11) := ⟨⟨by decide +kernel, by decide +kernel⟩, List.mem_of_getElem? (i := 645) (by decide +kernel), List.mem_of_getElem? (i := 793) (by decide +kernel), List.mem_of_getElem? (i := 794) (by decide +kernel)⟩
theorem lw_p40 : lw_okq (⟨"BatchExecutiveModel", "phasesOf", "(II)I"⟩, 11) := ⟨⟨by decide +kernel, by decide +kernel⟩, List.mem_of_getElem? (i := 645) (by decide +kernel), List.mem_of_getElem? (i := 805) (by decide +kernel), List.mem_of_getElem? (i := 806) (by decide +kernel)⟩
theorem lw_p41 : lw_okq (⟨"BatchExecutiveModel", "phaseIn", "(III)I"⟩, 11) := ⟨⟨by decide +kernel, by decide +kernel⟩, List.mem_of_getElem? (i := 645) (by decide +kernel), List.mem_of_getElem? (i := 809) (by decide +kernel), List.mem_of_getElem? (i := 810) (by decide +kernel)⟩
theorem lw_p42 : lw_okq (⟨"BatchExecutiveModel", "isBatch", "(I)Z"⟩, 11) := ⟨⟨by decide +kernel, by decide +kernel⟩, List.mem_of_getElem? (i := 645) (by decide +kernel), List.mem_of_getElem? (i := 835) (by decide +kernel), List.mem_of_getElem? (i := 836) (by decide +kernel)⟩
theorem lw_p43 : lw_okq (⟨"BatchExecutiveModel", "many", "(I)I"⟩, 11) := ⟨⟨by decide +kernel, by decide +kernel⟩, List.mem_of_getElem? (i := 645) (by decide +kernel), List.mem_of_getElem? (i := 853) (by decide +kernel), List.mem_of_getElem? (i := 854) (by decide +kernel)⟩
theorem lw_p44 : lw_okq (⟨"BatchExecutiveModel", "phaseNow", "(I)I"⟩, 11) := ⟨⟨by decide +kernel, by decide +kernel⟩, List.mem_of_getElem? (i := 645) (by decide +kernel), List.mem_of_getElem? (i := 865) (by decide +kernel), List.mem_of_getElem? (i := 866) (by decide +kernel)⟩
theorem lw_p45 : lw_okq (⟨"BatchExecutiveModel", "phaseAt", "(II)I"⟩, 11) := ⟨⟨by decide +kernel, by decide +kernel⟩, List.mem_of_getElem? (i := 645) (by decide +kernel), List.mem_of_getElem? (i := 869) (by decide +kernel), List.mem_of_getElem? (i := 870) (by decide +kernel)⟩
theorem lw_p46 : lw_okq (⟨"BatchExecutiveModel", "left", "(I)I"⟩, 11) := ⟨⟨by decide +kernel, by decide +kernel⟩, List.mem_of_getElem? (i := 645) (by decide +kernel), List.mem_of_getElem? (i := 873) (by decide +kernel), List.mem_of_getElem? (i := 874) (by decide +kernel)⟩
theorem lw_p47 : lw_okq (⟨"BatchExecutiveModel", "endsBy", "(III)V"⟩, 11) := ⟨⟨by decide +kernel, by decide +kernel⟩, List.mem_of_getElem? (i := 645) (by decide +kernel), List.mem_of_getElem? (i := 881) (by decide +kernel), List.mem_of_getElem? (i := 882) (by decide +kernel)⟩
def lw_privs_3 : List (MethodName × Nat) := [(⟨"BatchExecutiveModel", "broken", "()I"⟩, 11), (⟨"BatchExecutiveModel", "isFree", "(I)Z"⟩, 11), (⟨"BatchExecutiveModel", "readText", "()I"⟩, 11), (⟨"BatchExecutiveModel", "readPhase", "(I)Z"⟩, 11), (⟨"BatchExecutiveModel", "here", "()I"⟩, 11), (⟨"BatchExecutiveModel", "isFault", "()Z"⟩, 11), (⟨"BatchExecutiveModel", "readNumber", "(II)Z"⟩, 11), (⟨"BatchExecutiveModel", "takes", "(I)Z"⟩, 11), (⟨"BatchExecutiveModel", "phasesOf", "(II)I"⟩, 11), (⟨"BatchExecutiveModel", "phaseIn", "(III)I"⟩, 11), (⟨"BatchExecutiveModel", "isBatch", "(I)Z"⟩, 11), (⟨"BatchExecutiveModel", "many", "(I)I"⟩, 11), (⟨"BatchExecutiveModel", "phaseNow", "(I)I"⟩, 11), (⟨"BatchExecutiveModel", "phaseAt", "(II)I"⟩, 11), (⟨"BatchExecutiveModel", "left", "(I)I"⟩, 11), (⟨"BatchExecutiveModel", "endsBy", "(III)V"⟩, 11)]
theorem lw_r3 : ∀ q ∈ lw_privs_3, lw_okq q := List.forall_mem_cons.mpr ⟨lw_p32, List.forall_mem_cons.mpr ⟨lw_p33, List.forall_mem_cons.mpr ⟨lw_p34, List.forall_mem_cons.mpr ⟨lw_p35, List.forall_mem_cons.mpr ⟨lw_p36, List.forall_mem_cons.mpr ⟨lw_p37, List.forall_mem_cons.mpr ⟨lw_p38, List.forall_mem_cons.mpr ⟨lw_p39, List.forall_mem_cons.mpr ⟨lw_p40, List.forall_mem_cons.mpr ⟨lw_p41, List.forall_mem_cons.mpr ⟨lw_p42, List.forall_mem_cons.mpr ⟨lw_p43, List.forall_mem_cons.mpr ⟨lw_p44, List.forall_mem_cons.mpr ⟨lw_p45, List.forall_mem_cons.mpr ⟨lw_p46, List.forall_mem_cons.mpr ⟨lw_p47, fun _ h => absurd h List.not_mem_nil⟩⟩⟩⟩⟩⟩⟩⟩⟩⟩⟩⟩⟩⟩⟩⟩
theorem lw_p48 : lw_okq (⟨"BatchExecutiveModel", "releaseUnit", "(I)V"⟩, 11) := ⟨⟨by decide +kernel, by decide +kernel⟩, List.mem_of_getElem? (i := 645) (by decide +kernel), List.mem_of_getElem? (i := 885) (by decide +kernel), List.mem_of_getElem? (i := 886) (by decide +kernel)⟩
theorem lw_p49 : lw_okq (⟨"BatchExecutiveModel", "batchOf", "(II)I"⟩, 11) := ⟨⟨by decide +kernel, by decide +kernel⟩, List.mem_of_getElem? (i := 645) (by decide +kernel), List.mem_of_getElem? (i := 901) (by decide +kernel), List.mem_of_getElem? (i := 902) (by decide +kernel)⟩
theorem lw_p50 : lw_okq (⟨"BatchExecutiveModel", "clean", "()V"⟩, 11) := ⟨⟨by decide +kernel, by decide +kernel⟩, List.mem_of_getElem? (i := 645) (by decide +kernel), List.mem_of_getElem? (i := 912) (by decide +kernel), List.mem_of_getElem? (i := 913) (by decide +kernel)⟩
theorem lw_p51 : lw_okq (⟨"BatchExecutiveModel", "reason", "(I)I"⟩, 11) := ⟨⟨by decide +kernel, by decide +kernel⟩, List.mem_of_getElem? (i := 645) (by decide +kernel), List.mem_of_getElem? (i := 916) (by decide +kernel), List.mem_of_getElem? (i := 917) (by decide +kernel)⟩
theorem lw_p52 : lw_okq (⟨"BatchExecutiveModel", "waitsForOther", "(I)Z"⟩, 11) := ⟨⟨by decide +kernel, by decide +kernel⟩, List.mem_of_getElem? (i := 645) (by decide +kernel), List.mem_of_getElem? (i := 920) (by decide +kernel), List.mem_of_getElem? (i := 921) (by decide +kernel)⟩
theorem lw_p53 : lw_okq (⟨"BatchExecutiveModel", "unitFor", "(II)I"⟩, 11) := ⟨⟨by decide +kernel, by decide +kernel⟩, List.mem_of_getElem? (i := 645) (by decide +kernel), List.mem_of_getElem? (i := 924) (by decide +kernel), List.mem_of_getElem? (i := 925) (by decide +kernel)⟩
theorem lw_p54 : lw_okq (⟨"BatchExecutiveModel", "waitsForShared", "(I)Z"⟩, 11) := ⟨⟨by decide +kernel, by decide +kernel⟩, List.mem_of_getElem? (i := 645) (by decide +kernel), List.mem_of_getElem? (i := 928) (by decide +kernel), List.mem_of_getElem? (i := 929) (by decide +kernel)⟩
theorem lw_p55 : lw_okq (⟨"BatchExecutiveModel", "sort", "()I"⟩, 11) := ⟨⟨by decide +kernel, by decide +kernel⟩, List.mem_of_getElem? (i := 645) (by decide +kernel), List.mem_of_getElem? (i := 936) (by decide +kernel), List.mem_of_getElem? (i := 937) (by decide +kernel)⟩
theorem lw_p56 : lw_okq (⟨"BatchExecutiveModel", "tick", "()V"⟩, 11) := ⟨⟨by decide +kernel, by decide +kernel⟩, List.mem_of_getElem? (i := 645) (by decide +kernel), List.mem_of_getElem? (i := 945) (by decide +kernel), List.mem_of_getElem? (i := 946) (by decide +kernel)⟩
theorem lw_p57 : lw_okq (⟨"BatchExecutiveModel", "work", "(I)V"⟩, 11) := ⟨⟨by decide +kernel, by decide +kernel⟩, List.mem_of_getElem? (i := 645) (by decide +kernel), List.mem_of_getElem? (i := 949) (by decide +kernel), List.mem_of_getElem? (i := 950) (by decide +kernel)⟩
theorem lw_p58 : lw_okq (⟨"BatchExecutiveModel", "ends", "(I)V"⟩, 11) := ⟨⟨by decide +kernel, by decide +kernel⟩, List.mem_of_getElem? (i := 645) (by decide +kernel), List.mem_of_getElem? (i := 953) (by decide +kernel), List.mem_of_getElem? (i := 954) (by decide +kernel)⟩
theorem lw_p59 : lw_okq (⟨"BatchExecutiveModel", "freeUnits", "()I"⟩, 11) := ⟨⟨by decide +kernel, by decide +kernel⟩, List.mem_of_getElem? (i := 645) (by decide +kernel), List.mem_of_getElem? (i := 966) (by decide +kernel), List.mem_of_getElem? (i := 967) (by decide +kernel)⟩
theorem lw_p60 : lw_okq (⟨"BatchExecutiveModel", "worked", "()I"⟩, 11) := ⟨⟨by decide +kernel, by decide +kernel⟩, List.mem_of_getElem? (i := 645) (by decide +kernel), List.mem_of_getElem? (i := 970) (by decide +kernel), List.mem_of_getElem? (i := 971) (by decide +kernel)⟩
theorem lw_p61 : lw_okq (⟨"BatchExecutiveModel", "freeShared", "()I"⟩, 11) := ⟨⟨by decide +kernel, by decide +kernel⟩, List.mem_of_getElem? (i := 645) (by decide +kernel), List.mem_of_getElem? (i := 974) (by decide +kernel), List.mem_of_getElem? (i := 975) (by decide +kernel)⟩
def lw_privs_4 : List (MethodName × Nat) := [(⟨"BatchExecutiveModel", "releaseUnit", "(I)V"⟩, 11), (⟨"BatchExecutiveModel", "batchOf", "(II)I"⟩, 11), (⟨"BatchExecutiveModel", "clean", "()V"⟩, 11), (⟨"BatchExecutiveModel", "reason", "(I)I"⟩, 11), (⟨"BatchExecutiveModel", "waitsForOther", "(I)Z"⟩, 11), (⟨"BatchExecutiveModel", "unitFor", "(II)I"⟩, 11), (⟨"BatchExecutiveModel", "waitsForShared", "(I)Z"⟩, 11), (⟨"BatchExecutiveModel", "sort", "()I"⟩, 11), (⟨"BatchExecutiveModel", "tick", "()V"⟩, 11), (⟨"BatchExecutiveModel", "work", "(I)V"⟩, 11), (⟨"BatchExecutiveModel", "ends", "(I)V"⟩, 11), (⟨"BatchExecutiveModel", "freeUnits", "()I"⟩, 11), (⟨"BatchExecutiveModel", "worked", "()I"⟩, 11), (⟨"BatchExecutiveModel", "freeShared", "()I"⟩, 11)]
theorem lw_r4 : ∀ q ∈ lw_privs_4, lw_okq q := List.forall_mem_cons.mpr ⟨lw_p48, List.forall_mem_cons.mpr ⟨lw_p49, List.forall_mem_cons.mpr ⟨lw_p50, List.forall_mem_cons.mpr ⟨lw_p51, List.forall_mem_cons.mpr ⟨lw_p52, List.forall_mem_cons.mpr ⟨lw_p53, List.forall_mem_cons.mpr ⟨lw_p54, List.forall_mem_cons.mpr ⟨lw_p55, List.forall_mem_cons.mpr ⟨lw_p56, List.forall_mem_cons.mpr ⟨lw_p57, List.forall_mem_cons.mpr ⟨lw_p58, List.forall_mem_cons.mpr ⟨lw_p59, List.forall_mem_cons.mpr ⟨lw_p60, List.forall_mem_cons.mpr ⟨lw_p61, fun _ h => absurd h List.not_mem_nil⟩⟩⟩⟩⟩⟩⟩⟩⟩⟩⟩⟩⟩⟩
def lw_privs : List (MethodName × Nat) := lw_privs_1 ++ (lw_privs_2 ++ (lw_privs_3 ++ (lw_privs_4)))
def lw_tbl : List Cond := k2_sels lw_privs ++ tables_1
theorem lw_privs_ok : ∀ q ∈ lw_privs, lw_okq q := by
  show ∀ q ∈ lw_privs_1 ++ (lw_privs_2 ++ (lw_privs_3 ++ (lw_privs_4))), lw_okq q
  exact List.forall_mem_append.mpr ⟨lw_r1, List.forall_mem_append.mpr ⟨lw_r2, List.forall_mem_append.mpr ⟨lw_r3, lw_r4⟩⟩⟩
/-- the streams that the claim lets the run draw from -/
abbrev lw_cs : List Choice := [Jvm.Choice.named "NaN.bits", Jvm.Choice.named "NaN.copy"]
theorem lw_bits : nanBits ∈ lw_cs := by first | decide | exact List.mem_cons_self | simp [lw_cs, nanBits]
/-! ===== BEGIN printed: names, fields, word lists, decode rows ===== -/
def RX0 : String := "BatchExecutive$Batch"
def TX0 : u_T := fun k => match k with
  | 0 => ("BatchExecutive$Batch", "recipe", "I", false)
  | 1 => ("BatchExecutive$Batch", "version", "I", false)
  | 2 => ("BatchExecutive$Batch", "size", "I", false)
  | 3 => ("BatchExecutive$Batch", "priority", "I", false)
  | 4 => ("BatchExecutive$Batch", "before", "I", false)
  | 5 => ("BatchExecutive$Batch", "state", "I", false)
  | 6 => ("BatchExecutive$Batch", "phase", "I", false)
  | 7 => ("BatchExecutive$Batch", "ticksDone", "I", false)
  | 8 => ("BatchExecutive$Batch", "unit", "I", false)
  | _ => ("BatchExecutive$Batch", "amount", "F", false)
def tyX0 : Nat → FieldType := fun k => match k with
  | 0 => .int
  | 1 => .int
  | 2 => .int
  | 3 => .int
  | 4 => .int
  | 5 => .int
  | 6 => .int
  | 7 => .int
  | 8 => .int
  | _ => .float
theorem nmX0 : ∀ a, a < 10 → ∀ b, b < 10 → a ≠ b → (TX0 a).2.1 ≠ (TX0 b).2.1 := by decide +kernel
theorem tyX0_ok : ∀ k, k < 10 → parseFieldDescriptor (TX0 k).2.2.1 = some (tyX0 k) := by decide +kernel
abbrev cX0_init : ByteArray := prog_2_method_1_code
def yX0_init : MethodName := ⟨RX0, "<init>", "()V"⟩
abbrev cX0_reset : ByteArray := prog_2_method_2_code
def yX0_reset : MethodName := ⟨RX0, "reset", "(IIIII)V"⟩
abbrev cX0_copyFrom : ByteArray := prog_2_method_3_code
def yX0_copyFrom : MethodName := ⟨RX0, "copyFrom", "(LBatchExecutive$Batch;)V"⟩
abbrev cX0_isActive : ByteArray := prog_2_method_4_code
def yX0_isActive : MethodName := ⟨RX0, "isActive", "()Z"⟩
abbrev cX0_isAtEnd : ByteArray := prog_2_method_5_code
def yX0_isAtEnd : MethodName := ⟨RX0, "isAtEnd", "()Z"⟩
abbrev cX0_isUnderWay : ByteArray := prog_2_method_6_code
def yX0_isUnderWay : MethodName := ⟨RX0, "isUnderWay", "()Z"⟩
abbrev cX0_hasBegun : ByteArray := prog_2_method_7_code
def yX0_hasBegun : MethodName := ⟨RX0, "hasBegun", "()Z"⟩
def RX1 : String := "BatchExecutive$Book"
def TX1 : u_T := fun k => match k with
  | 0 => ("BatchExecutive$Book", "lengths", "[I", true)
  | _ => ("BatchExecutive$Book", "values", "[[I", true)
def tyX1 : Nat → FieldType := fun k => match k with
  | 0 => .array .int
  | _ => .array (.array .int)
theorem nmX1 : ∀ a, a < 2 → ∀ b, b < 2 → a ≠ b → (TX1 a).2.1 ≠ (TX1 b).2.1 := by decide +kernel
theorem tyX1_ok : ∀ k, k < 2 → parseFieldDescriptor (TX1 k).2.2.1 = some (tyX1 k) := by decide +kernel
abbrev cX1_init : ByteArray := prog_3_method_1_code
def yX1_init : MethodName := ⟨RX1, "<init>", "()V"⟩
abbrev cX1_pageOf : ByteArray := prog_3_method_2_code
def yX1_pageOf : MethodName := ⟨RX1, "pageOf", "(II)I"⟩
abbrev cX1_write : ByteArray := prog_3_method_3_code
def yX1_write : MethodName := ⟨RX1, "write", "(ILBatchExecutive$Text;)V"⟩
abbrev cX1_find : ByteArray := prog_3_method_4_code
def yX1_find : MethodName := ⟨RX1, "find", "(III)I"⟩
def RX2 : String := "BatchExecutive$Journal"
def TX2 : u_T := fun k => match k with
  | 0 => ("BatchExecutive$Journal", "ticks", "[I", true)
  | 1 => ("BatchExecutive$Journal", "batches", "[I", true)
  | 2 => ("BatchExecutive$Journal", "happenings", "[I", true)
  | 3 => ("BatchExecutive$Journal", "length", "I", false)
  | _ => ("BatchExecutive$Journal", "next", "I", false)
def tyX2 : Nat → FieldType := fun k => match k with
  | 0 => .array .int
  | 1 => .array .int
  | 2 => .array .int
  | 3 => .int
  | _ => .int
theorem nmX2 : ∀ a, a < 5 → ∀ b, b < 5 → a ≠ b → (TX2 a).2.1 ≠ (TX2 b).2.1 := by decide +kernel
theorem tyX2_ok : ∀ k, k < 5 → parseFieldDescriptor (TX2 k).2.2.1 = some (tyX2 k) := by decide +kernel
abbrev cX2_init : ByteArray := prog_4_method_1_code
def yX2_init : MethodName := ⟨RX2, "<init>", "()V"⟩
abbrev cX2_add : ByteArray := prog_4_method_2_code
def yX2_add : MethodName := ⟨RX2, "add", "(III)V"⟩
abbrev cX2_find : ByteArray := prog_4_method_3_code
def yX2_find : MethodName := ⟨RX2, "find", "(II)I"⟩
abbrev cX2_copyFrom : ByteArray := prog_4_method_4_code
def yX2_copyFrom : MethodName := ⟨RX2, "copyFrom", "(LBatchExecutive$Journal;)V"⟩
def RX3 : String := "BatchExecutive$State"
def TX3 : u_T := fun k => match k with
  | 0 => ("BatchExecutive$State", "book", "LBatchExecutive$Book;", true)
  | 1 => ("BatchExecutive$State", "units", "[LBatchExecutive$Unit;", true)
  | 2 => ("BatchExecutive$State", "batches", "[LBatchExecutive$Batch;", true)
  | 3 => ("BatchExecutive$State", "pieceHolders", "[I", true)
  | 4 => ("BatchExecutive$State", "latestVersions", "[I", true)
  | 5 => ("BatchExecutive$State", "journal", "LBatchExecutive$Journal;", true)
  | 6 => ("BatchExecutive$State", "order", "[I", true)
  | 7 => ("BatchExecutive$State", "unitCount", "I", false)
  | 8 => ("BatchExecutive$State", "batchCount", "I", false)
  | 9 => ("BatchExecutive$State", "orderCount", "I", false)
  | 10 => ("BatchExecutive$State", "ticks", "I", false)
  | _ => ("BatchExecutive$State", "cleaning", "I", false)
def tyX3 : Nat → FieldType := fun k => match k with
  | 0 => .object "BatchExecutive$Book"
  | 1 => .array (.object "BatchExecutive$Unit")
  | 2 => .array (.object "BatchExecutive$Batch")
  | 3 => .array .int
  | 4 => .array .int
  | 5 => .object "BatchExecutive$Journal"
  | 6 => .array .int
  | 7 => .int
  | 8 => .int
  | 9 => .int
  | 10 => .int
  | _ => .int
theorem nmX3 : ∀ a, a < 12 → ∀ b, b < 12 → a ≠ b → (TX3 a).2.1 ≠ (TX3 b).2.1 := by decide +kernel
theorem tyX3_ok : ∀ k, k < 12 → parseFieldDescriptor (TX3 k).2.2.1 = some (tyX3 k) := by decide +kernel
abbrev cX3_init : ByteArray := prog_5_method_1_code
def yX3_init : MethodName := ⟨RX3, "<init>", "(LBatchExecutive$Book;)V"⟩
abbrev cX3_copyFrom : ByteArray := prog_5_method_2_code
def yX3_copyFrom : MethodName := ⟨RX3, "copyFrom", "(LBatchExecutive$State;)V"⟩
abbrev cX3_addUnit : ByteArray := prog_5_method_3_code
def yX3_addUnit : MethodName := ⟨RX3, "addUnit", "(II)I"⟩
abbrev cX3_breakUnit : ByteArray := prog_5_method_4_code
def yX3_breakUnit : MethodName := ⟨RX3, "breakUnit", "(I)I"⟩
abbrev cX3_brokenUnits : ByteArray := prog_5_method_5_code
def yX3_brokenUnits : MethodName := ⟨RX3, "brokenUnits", "()I"⟩
abbrev cX3_freeUnits : ByteArray := prog_5_method_6_code
def yX3_freeUnits : MethodName := ⟨RX3, "freeUnits", "()I"⟩
abbrev cX3_workedTicks : ByteArray := prog_5_method_7_code
def yX3_workedTicks : MethodName := ⟨RX3, "workedTicks", "()I"⟩
abbrev cX3_freePieces : ByteArray := prog_5_method_8_code
def yX3_freePieces : MethodName := ⟨RX3, "freePieces", "()I"⟩
abbrev cX3_unitFor : ByteArray := prog_5_method_9_code
def yX3_unitFor : MethodName := ⟨RX3, "unitFor", "(LBatchExecutive$Batch;I)I"⟩
abbrev cX3_releaseUnit : ByteArray := prog_5_method_10_code
def yX3_releaseUnit : MethodName := ⟨RX3, "releaseUnit", "(LBatchExecutive$Batch;)V"⟩
abbrev cX3_releasePieces : ByteArray := prog_5_method_11_code
def yX3_releasePieces : MethodName := ⟨RX3, "releasePieces", "(I)V"⟩
abbrev cX3_addBatch : ByteArray := prog_5_method_12_code
def yX3_addBatch : MethodName := ⟨RX3, "addBatch", "(IIII)I"⟩
abbrev cX3_batchesIn : ByteArray := prog_5_method_13_code
def yX3_batchesIn : MethodName := ⟨RX3, "batchesIn", "(I)I"⟩
abbrev cX3_isGivenUp : ByteArray := prog_5_method_14_code
def yX3_isGivenUp : MethodName := ⟨RX3, "isGivenUp", "(I)Z"⟩
abbrev cX3_hasBrokenUnit : ByteArray := prog_5_method_15_code
def yX3_hasBrokenUnit : MethodName := ⟨RX3, "hasBrokenUnit", "(I)Z"⟩
abbrev cX3_ticksLeft : ByteArray := prog_5_method_16_code
def yX3_ticksLeft : MethodName := ⟨RX3, "ticksLeft", "(I)I"⟩
abbrev cX3_valueOf : ByteArray := prog_5_method_17_code
def yX3_valueOf : MethodName := ⟨RX3, "valueOf", "(LBatchExecutive$Batch;I)I"⟩
abbrev cX3_holdBatch : ByteArray := prog_5_method_18_code
def yX3_holdBatch : MethodName := ⟨RX3, "holdBatch", "(I)V"⟩
abbrev cX3_restartBatch : ByteArray := prog_5_method_19_code
def yX3_restartBatch : MethodName := ⟨RX3, "restartBatch", "(I)V"⟩
abbrev cX3_stopBatch : ByteArray := prog_5_method_20_code
def yX3_stopBatch : MethodName := ⟨RX3, "stopBatch", "(I)V"⟩
abbrev cX3_abortWithFollowing : ByteArray := prog_5_method_21_code
def yX3_abortWithFollowing : MethodName := ⟨RX3, "abortWithFollowing", "(I)I"⟩
abbrev cX3_bringToEnd : ByteArray := prog_5_method_22_code
def yX3_bringToEnd : MethodName := ⟨RX3, "bringToEnd", "(III)V"⟩
abbrev cX3_arrange : ByteArray := prog_5_method_23_code
def yX3_arrange : MethodName := ⟨RX3, "arrange", "()V"⟩
abbrev cX3_insertInOrder : ByteArray := prog_5_method_24_code
def yX3_insertInOrder : MethodName := ⟨RX3, "insertInOrder", "(I)V"⟩
abbrev cX3_passTick : ByteArray := prog_5_method_25_code
def yX3_passTick : MethodName := ⟨RX3, "passTick", "()Z"⟩
abbrev cX3_cleanUnits : ByteArray := prog_5_method_26_code
def yX3_cleanUnits : MethodName := ⟨RX3, "cleanUnits", "()Z"⟩
abbrev cX3_reasonToWait : ByteArray := prog_5_method_27_code
def yX3_reasonToWait : MethodName := ⟨RX3, "reasonToWait", "(II)I"⟩
abbrev cX3_moveOn : ByteArray := prog_5_method_28_code
def yX3_moveOn : MethodName := ⟨RX3, "moveOn", "(I)Z"⟩
abbrev cX3_takeUnit : ByteArray := prog_5_method_29_code
def yX3_takeUnit : MethodName := ⟨RX3, "takeUnit", "(I)Z"⟩
abbrev cX3_work : ByteArray := prog_5_method_30_code
def yX3_work : MethodName := ⟨RX3, "work", "(I)V"⟩
abbrev cX3_endPhase : ByteArray := prog_5_method_31_code
def yX3_endPhase : MethodName := ⟨RX3, "endPhase", "(I)V"⟩
def RX4 : String := "BatchExecutive$Text"
def TX4 : u_T := fun k => match k with
  | 0 => ("BatchExecutive$Text", "characters", "[C", true)
  | 1 => ("BatchExecutive$Text", "values", "[[I", true)
  | 2 => ("BatchExecutive$Text", "length", "I", false)
  | 3 => ("BatchExecutive$Text", "phaseCount", "I", false)
  | 4 => ("BatchExecutive$Text", "reason", "I", false)
  | 5 => ("BatchExecutive$Text", "place", "I", false)
  | _ => ("BatchExecutive$Text", "at", "I", false)
def tyX4 : Nat → FieldType := fun k => match k with
  | 0 => .array .char
  | 1 => .array (.array .int)
  | 2 => .int
  | 3 => .int
  | 4 => .int
  | 5 => .int
  | _ => .int
theorem nmX4 : ∀ a, a < 7 → ∀ b, b < 7 → a ≠ b → (TX4 a).2.1 ≠ (TX4 b).2.1 := by decide +kernel
theorem tyX4_ok : ∀ k, k < 7 → parseFieldDescriptor (TX4 k).2.2.1 = some (tyX4 k) := by decide +kernel
abbrev cX4_init : ByteArray := prog_6_method_1_code
def yX4_init : MethodName := ⟨RX4, "<init>", "()V"⟩
abbrev cX4_append : ByteArray := prog_6_method_2_code
def yX4_append : MethodName := ⟨RX4, "append", "(C)V"⟩
abbrev cX4_read : ByteArray := prog_6_method_3_code
def yX4_read : MethodName := ⟨RX4, "read", "()V"⟩
abbrev cX4_readPhase : ByteArray := prog_6_method_4_code
def yX4_readPhase : MethodName := ⟨RX4, "readPhase", "()V"⟩
abbrev cX4_readRest : ByteArray := prog_6_method_5_code
def yX4_readRest : MethodName := ⟨RX4, "readRest", "(I)V"⟩
abbrev cX4_readNumber : ByteArray := prog_6_method_6_code
def yX4_readNumber : MethodName := ⟨RX4, "readNumber", "(II)I"⟩
abbrev cX4_readPiece : ByteArray := prog_6_method_7_code
def yX4_readPiece : MethodName := ⟨RX4, "readPiece", "()I"⟩
abbrev cX4_passes : ByteArray := prog_6_method_8_code
def yX4_passes : MethodName := ⟨RX4, "passes", "(C)Z"⟩
abbrev cX4_current : ByteArray := prog_6_method_9_code
def yX4_current : MethodName := ⟨RX4, "current", "()I"⟩
abbrev cX4_blameCurrent : ByteArray := prog_6_method_10_code
def yX4_blameCurrent : MethodName := ⟨RX4, "blameCurrent", "()V"⟩
abbrev cX4_blame : ByteArray := prog_6_method_11_code
def yX4_blame : MethodName := ⟨RX4, "blame", "(II)V"⟩
abbrev cX4_isDigit : ByteArray := prog_6_method_12_code
def yX4_isDigit : MethodName := ⟨RX4, "isDigit", "(I)Z"⟩
abbrev cX4_kindOf : ByteArray := prog_6_method_13_code
def yX4_kindOf : MethodName := ⟨RX4, "kindOf", "(I)I"⟩
def RX5 : String := "BatchExecutive$Unit"
def TX5 : u_T := fun k => match k with
  | 0 => ("BatchExecutive$Unit", "kind", "I", false)
  | 1 => ("BatchExecutive$Unit", "capacity", "I", false)
  | 2 => ("BatchExecutive$Unit", "holder", "I", false)
  | 3 => ("BatchExecutive$Unit", "cleaning", "I", false)
  | 4 => ("BatchExecutive$Unit", "worked", "I", false)
  | _ => ("BatchExecutive$Unit", "broken", "Z", false)
def tyX5 : Nat → FieldType := fun k => match k with
  | 0 => .int
  | 1 => .int
  | 2 => .int
  | 3 => .int
  | 4 => .int
  | _ => .boolean
theorem nmX5 : ∀ a, a < 6 → ∀ b, b < 6 → a ≠ b → (TX5 a).2.1 ≠ (TX5 b).2.1 := by decide +kernel
theorem tyX5_ok : ∀ k, k < 6 → parseFieldDescriptor (TX5 k).2.2.1 = some (tyX5 k) := by decide +kernel
abbrev cX5_init : ByteArray := prog_7_method_1_code
def yX5_init : MethodName := ⟨RX5, "<init>", "()V"⟩
abbrev cX5_reset : ByteArray := prog_7_method_2_code
def yX5_reset : MethodName := ⟨RX5, "reset", "(II)V"⟩
abbrev cX5_copyFrom : ByteArray := prog_7_method_3_code
def yX5_copyFrom : MethodName := ⟨RX5, "copyFrom", "(LBatchExecutive$Unit;)V"⟩
abbrev cX5_isFreeAfter : ByteArray := prog_7_method_4_code
def yX5_isFreeAfter : MethodName := ⟨RX5, "isFreeAfter", "(I)Z"⟩
def RX6 : String := "BatchExecutive"
def TX6 : u_T := fun k => match k with
  | 0 => ("BatchExecutive", "book", "LBatchExecutive$Book;", true)
  | 1 => ("BatchExecutive", "text", "LBatchExecutive$Text;", true)
  | 2 => ("BatchExecutive", "present", "LBatchExecutive$State;", true)
  | 3 => ("BatchExecutive", "trial", "LBatchExecutive$State;", true)
  | 4 => ("BatchExecutive", "past", "[LBatchExecutive$State;", true)
  | _ => ("BatchExecutive", "pastCount", "I", false)
def tyX6 : Nat → FieldType := fun k => match k with
  | 0 => .object "BatchExecutive$Book"
  | 1 => .object "BatchExecutive$Text"
  | 2 => .object "BatchExecutive$State"
  | 3 => .object "BatchExecutive$State"
  | 4 => .array (.object "BatchExecutive$State")
  | _ => .int
theorem nmX6 : ∀ a, a < 6 → ∀ b, b < 6 → a ≠ b → (TX6 a).2.1 ≠ (TX6 b).2.1 := by decide +kernel
theorem tyX6_ok : ∀ k, k < 6 → parseFieldDescriptor (TX6 k).2.2.1 = some (tyX6 k) := by decide +kernel
abbrev cX6_init : ByteArray := prog_1_method_1_code
def yX6_init : MethodName := ⟨RX6, "<init>", "()V"⟩
abbrev cX6_unit : ByteArray := prog_1_method_2_code
def yX6_unit : MethodName := ⟨RX6, "unit", "(II)I"⟩
abbrev cX6_fail : ByteArray := prog_1_method_3_code
def yX6_fail : MethodName := ⟨RX6, "fail", "(I)I"⟩
abbrev cX6_repair : ByteArray := prog_1_method_4_code
def yX6_repair : MethodName := ⟨RX6, "repair", "(I)I"⟩
abbrev cX6_unitInfo : ByteArray := prog_1_method_5_code
def yX6_unitInfo : MethodName := ⟨RX6, "unitInfo", "(II)I"⟩
abbrev cX6_shared : ByteArray := prog_1_method_6_code
def yX6_shared : MethodName := ⟨RX6, "shared", "(I)I"⟩
abbrev cX6_setCleaning : ByteArray := prog_1_method_7_code
def yX6_setCleaning : MethodName := ⟨RX6, "setCleaning", "(I)I"⟩
abbrev cX6_recipe : ByteArray := prog_1_method_8_code
def yX6_recipe : MethodName := ⟨RX6, "recipe", "(I)I"⟩
abbrev cX6_versions : ByteArray := prog_1_method_9_code
def yX6_versions : MethodName := ⟨RX6, "versions", "(I)I"⟩
abbrev cX6_phase : ByteArray := prog_1_method_10_code
def yX6_phase : MethodName := ⟨RX6, "phase", "(IIII)I"⟩
abbrev cX6_batch : ByteArray := prog_1_method_11_code
def yX6_batch : MethodName := ⟨RX6, "batch", "(IIII)I"⟩
abbrev cX6_start : ByteArray := prog_1_method_12_code
def yX6_start : MethodName := ⟨RX6, "start", "(I)I"⟩
abbrev cX6_hold : ByteArray := prog_1_method_13_code
def yX6_hold : MethodName := ⟨RX6, "hold", "(I)I"⟩
abbrev cX6_restart : ByteArray := prog_1_method_14_code
def yX6_restart : MethodName := ⟨RX6, "restart", "(I)I"⟩
abbrev cX6_stop : ByteArray := prog_1_method_15_code
def yX6_stop : MethodName := ⟨RX6, "stop", "(I)I"⟩
abbrev cX6_abort : ByteArray := prog_1_method_16_code
def yX6_abort : MethodName := ⟨RX6, "abort", "(I)I"⟩
abbrev cX6_priority : ByteArray := prog_1_method_17_code
def yX6_priority : MethodName := ⟨RX6, "priority", "(II)I"⟩
abbrev cX6_batchInfo : ByteArray := prog_1_method_18_code
def yX6_batchInfo : MethodName := ⟨RX6, "batchInfo", "(II)I"⟩
abbrev cX6_waits : ByteArray := prog_1_method_19_code
def yX6_waits : MethodName := ⟨RX6, "waits", "(I)I"⟩
abbrev cX6_inOrder : ByteArray := prog_1_method_20_code
def yX6_inOrder : MethodName := ⟨RX6, "inOrder", "(I)I"⟩
abbrev cX6_run : ByteArray := prog_1_method_21_code
def yX6_run : MethodName := ⟨RX6, "run", "(I)I"⟩
abbrev cX6_ticksTo : ByteArray := prog_1_method_22_code
def yX6_ticksTo : MethodName := ⟨RX6, "ticksTo", "(I)I"⟩
abbrev cX6_count : ByteArray := prog_1_method_23_code
def yX6_count : MethodName := ⟨RX6, "count", "(I)I"⟩
abbrev cX6_event : ByteArray := prog_1_method_24_code
def yX6_event : MethodName := ⟨RX6, "event", "(II)I"⟩
abbrev cX6_undo : ByteArray := prog_1_method_25_code
def yX6_undo : MethodName := ⟨RX6, "undo", "()I"⟩
abbrev cX6_type : ByteArray := prog_1_method_26_code
def yX6_type : MethodName := ⟨RX6, "type", "(I)I"⟩
abbrev cX6_clearText : ByteArray := prog_1_method_27_code
def yX6_clearText : MethodName := ⟨RX6, "clearText", "()I"⟩
abbrev cX6_fault : ByteArray := prog_1_method_28_code
def yX6_fault : MethodName := ⟨RX6, "fault", "(I)I"⟩
abbrev cX6_record : ByteArray := prog_1_method_29_code
def yX6_record : MethodName := ⟨RX6, "record", "()V"⟩
abbrev cX6_isUnit : ByteArray := prog_1_method_30_code
def yX6_isUnit : MethodName := ⟨RX6, "isUnit", "(I)Z"⟩
abbrev cX6_isBatch : ByteArray := prog_1_method_31_code
def yX6_isBatch : MethodName := ⟨RX6, "isBatch", "(I)Z"⟩
abbrev cX6_isRecipe : ByteArray := prog_1_method_32_code
def yX6_isRecipe : MethodName := ⟨RX6, "isRecipe", "(I)Z"⟩
abbrev cX6_isPriority : ByteArray := prog_1_method_33_code
def yX6_isPriority : MethodName := ⟨RX6, "isPriority", "(I)Z"⟩
abbrev cX6_isWithin : ByteArray := prog_1_method_34_code
def yX6_isWithin : MethodName := ⟨RX6, "isWithin", "(III)Z"⟩
abbrev cX6_orNotFound : ByteArray := prog_1_method_35_code
def yX6_orNotFound : MethodName := ⟨RX6, "orNotFound", "(I)I"⟩
abbrev cX6_oneIf : ByteArray := prog_1_method_36_code
def yX6_oneIf : MethodName := ⟨RX6, "oneIf", "(Z)I"⟩
abbrev cX6_bitsOf : ByteArray := prog_1_method_37_code
def yX6_bitsOf : MethodName := ⟨RX6, "bitsOf", "(F)I"⟩
def RX7 : String := "BatchExecutiveModel"
def TX7 : u_T := fun k => match k with
  | 0 => ("BatchExecutiveModel", "m", "[I", true)
  | 1 => ("BatchExecutiveModel", "spare", "[I", true)
  | 2 => ("BatchExecutiveModel", "saved", "[I", true)
  | 3 => ("BatchExecutiveModel", "savedCount", "I", false)
  | 4 => ("BatchExecutiveModel", "text", "[I", true)
  | 5 => ("BatchExecutiveModel", "textLength", "I", false)
  | 6 => ("BatchExecutiveModel", "at", "I", false)
  | 7 => ("BatchExecutiveModel", "faultReason", "I", false)
  | 8 => ("BatchExecutiveModel", "number", "I", false)
  | 9 => ("BatchExecutiveModel", "read", "[I", true)
  | _ => ("BatchExecutiveModel", "order", "[I", true)
def tyX7 : Nat → FieldType := fun k => match k with
  | 0 => .array .int
  | 1 => .array .int
  | 2 => .array .int
  | 3 => .int
  | 4 => .array .int
  | 5 => .int
  | 6 => .int
  | 7 => .int
  | 8 => .int
  | 9 => .array .int
  | _ => .array .int
theorem nmX7 : ∀ a, a < 11 → ∀ b, b < 11 → a ≠ b → (TX7 a).2.1 ≠ (TX7 b).2.1 := by decide +kernel
theorem tyX7_ok : ∀ k, k < 11 → parseFieldDescriptor (TX7 k).2.2.1 = some (tyX7 k) := by decide +kernel
abbrev cX7_init : ByteArray := prog_9_method_1_code
def yX7_init : MethodName := ⟨RX7, "<init>", "()V"⟩
abbrev cX7_in : ByteArray := prog_9_method_2_code
def yX7_in : MethodName := ⟨RX7, "in", "(III)Z"⟩
abbrev cX7_bring : ByteArray := prog_9_method_3_code
def yX7_bring : MethodName := ⟨RX7, "bring", "([II[II)V"⟩
abbrev cX7_keep : ByteArray := prog_9_method_4_code
def yX7_keep : MethodName := ⟨RX7, "keep", "()V"⟩
abbrev cX7_isUnit : ByteArray := prog_9_method_5_code
def yX7_isUnit : MethodName := ⟨RX7, "isUnit", "(I)Z"⟩
abbrev cX7_isBatch : ByteArray := prog_9_method_6_code
def yX7_isBatch : MethodName := ⟨RX7, "isBatch", "(I)Z"⟩
abbrev cX7_ofUnit : ByteArray := prog_9_method_7_code
def yX7_ofUnit : MethodName := ⟨RX7, "ofUnit", "(II)I"⟩
abbrev cX7_putUnit : ByteArray := prog_9_method_8_code
def yX7_putUnit : MethodName := ⟨RX7, "putUnit", "(III)V"⟩
abbrev cX7_of : ByteArray := prog_9_method_9_code
def yX7_of : MethodName := ⟨RX7, "of", "(II)I"⟩
abbrev cX7_put : ByteArray := prog_9_method_10_code
def yX7_put : MethodName := ⟨RX7, "put", "(III)V"⟩
abbrev cX7_many : ByteArray := prog_9_method_11_code
def yX7_many : MethodName := ⟨RX7, "many", "(I)I"⟩
abbrev cX7_note : ByteArray := prog_9_method_12_code
def yX7_note : MethodName := ⟨RX7, "note", "(II)V"⟩
abbrev cX7_unit : ByteArray := prog_9_method_13_code
def yX7_unit : MethodName := ⟨RX7, "unit", "(II)I"⟩
abbrev cX7_isFree : ByteArray := prog_9_method_14_code
def yX7_isFree : MethodName := ⟨RX7, "isFree", "(I)Z"⟩
abbrev cX7_releaseUnit : ByteArray := prog_9_method_15_code
def yX7_releaseUnit : MethodName := ⟨RX7, "releaseUnit", "(I)V"⟩
abbrev cX7_releaseShared : ByteArray := prog_9_method_16_code
def yX7_releaseShared : MethodName := ⟨RX7, "releaseShared", "(I)V"⟩
abbrev cX7_endsBy : ByteArray := prog_9_method_17_code
def yX7_endsBy : MethodName := ⟨RX7, "endsBy", "(III)V"⟩
abbrev cX7_holds : ByteArray := prog_9_method_18_code
def yX7_holds : MethodName := ⟨RX7, "holds", "(I)V"⟩
abbrev cX7_isActive : ByteArray := prog_9_method_19_code
def yX7_isActive : MethodName := ⟨RX7, "isActive", "(I)Z"⟩
abbrev cX7_fail : ByteArray := prog_9_method_20_code
def yX7_fail : MethodName := ⟨RX7, "fail", "(I)I"⟩
abbrev cX7_broken : ByteArray := prog_9_method_21_code
def yX7_broken : MethodName := ⟨RX7, "broken", "()I"⟩
abbrev cX7_repair : ByteArray := prog_9_method_22_code
def yX7_repair : MethodName := ⟨RX7, "repair", "(I)I"⟩
abbrev cX7_unitInfo : ByteArray := prog_9_method_23_code
def yX7_unitInfo : MethodName := ⟨RX7, "unitInfo", "(II)I"⟩
abbrev cX7_shared : ByteArray := prog_9_method_24_code
def yX7_shared : MethodName := ⟨RX7, "shared", "(I)I"⟩
abbrev cX7_setCleaning : ByteArray := prog_9_method_25_code
def yX7_setCleaning : MethodName := ⟨RX7, "setCleaning", "(I)I"⟩
abbrev cX7_kindOf : ByteArray := prog_9_method_26_code
def yX7_kindOf : MethodName := ⟨RX7, "kindOf", "(I)I"⟩
abbrev cX7_durationOf : ByteArray := prog_9_method_27_code
def yX7_durationOf : MethodName := ⟨RX7, "durationOf", "(I)I"⟩
abbrev cX7_sharedOf : ByteArray := prog_9_method_28_code
def yX7_sharedOf : MethodName := ⟨RX7, "sharedOf", "(I)I"⟩
abbrev cX7_yieldOf : ByteArray := prog_9_method_29_code
def yX7_yieldOf : MethodName := ⟨RX7, "yieldOf", "(I)I"⟩
abbrev cX7_markOf : ByteArray := prog_9_method_30_code
def yX7_markOf : MethodName := ⟨RX7, "markOf", "(I)I"⟩
abbrev cX7_phasesOf : ByteArray := prog_9_method_31_code
def yX7_phasesOf : MethodName := ⟨RX7, "phasesOf", "(II)I"⟩
abbrev cX7_phaseIn : ByteArray := prog_9_method_32_code
def yX7_phaseIn : MethodName := ⟨RX7, "phaseIn", "(III)I"⟩
abbrev cX7_phaseAt : ByteArray := prog_9_method_33_code
def yX7_phaseAt : MethodName := ⟨RX7, "phaseAt", "(II)I"⟩
abbrev cX7_phaseNow : ByteArray := prog_9_method_34_code
def yX7_phaseNow : MethodName := ⟨RX7, "phaseNow", "(I)I"⟩
abbrev cX7_isRecipe : ByteArray := prog_9_method_35_code
def yX7_isRecipe : MethodName := ⟨RX7, "isRecipe", "(I)Z"⟩
abbrev cX7_here : ByteArray := prog_9_method_36_code
def yX7_here : MethodName := ⟨RX7, "here", "()I"⟩
abbrev cX7_isFault : ByteArray := prog_9_method_37_code
def yX7_isFault : MethodName := ⟨RX7, "isFault", "()Z"⟩
abbrev cX7_readNumber : ByteArray := prog_9_method_38_code
def yX7_readNumber : MethodName := ⟨RX7, "readNumber", "(II)Z"⟩
abbrev cX7_kindBy : ByteArray := prog_9_method_39_code
def yX7_kindBy : MethodName := ⟨RX7, "kindBy", "(I)I"⟩
abbrev cX7_takes : ByteArray := prog_9_method_40_code
def yX7_takes : MethodName := ⟨RX7, "takes", "(I)Z"⟩
abbrev cX7_readPhase : ByteArray := prog_9_method_41_code
def yX7_readPhase : MethodName := ⟨RX7, "readPhase", "(I)Z"⟩
abbrev cX7_readText : ByteArray := prog_9_method_42_code
def yX7_readText : MethodName := ⟨RX7, "readText", "()I"⟩
abbrev cX7_recipe : ByteArray := prog_9_method_43_code
def yX7_recipe : MethodName := ⟨RX7, "recipe", "(I)I"⟩
abbrev cX7_versions : ByteArray := prog_9_method_44_code
def yX7_versions : MethodName := ⟨RX7, "versions", "(I)I"⟩
abbrev cX7_partOf : ByteArray := prog_9_method_45_code
def yX7_partOf : MethodName := ⟨RX7, "partOf", "(II)I"⟩
abbrev cX7_phase : ByteArray := prog_9_method_46_code
def yX7_phase : MethodName := ⟨RX7, "phase", "(IIII)I"⟩
abbrev cX7_batch : ByteArray := prog_9_method_47_code
def yX7_batch : MethodName := ⟨RX7, "batch", "(IIII)I"⟩
abbrev cX7_start : ByteArray := prog_9_method_48_code
def yX7_start : MethodName := ⟨RX7, "start", "(I)I"⟩
abbrev cX7_hold : ByteArray := prog_9_method_49_code
def yX7_hold : MethodName := ⟨RX7, "hold", "(I)I"⟩
abbrev cX7_left : ByteArray := prog_9_method_50_code
def yX7_left : MethodName := ⟨RX7, "left", "(I)I"⟩
abbrev cX7_restart : ByteArray := prog_9_method_51_code
def yX7_restart : MethodName := ⟨RX7, "restart", "(I)I"⟩
abbrev cX7_stop : ByteArray := prog_9_method_52_code
def yX7_stop : MethodName := ⟨RX7, "stop", "(I)I"⟩
abbrev cX7_abort : ByteArray := prog_9_method_53_code
def yX7_abort : MethodName := ⟨RX7, "abort", "(I)I"⟩
abbrev cX7_priority : ByteArray := prog_9_method_54_code
def yX7_priority : MethodName := ⟨RX7, "priority", "(II)I"⟩
abbrev cX7_batchOf : ByteArray := prog_9_method_55_code
def yX7_batchOf : MethodName := ⟨RX7, "batchOf", "(II)I"⟩
abbrev cX7_batchInfo : ByteArray := prog_9_method_56_code
def yX7_batchInfo : MethodName := ⟨RX7, "batchInfo", "(II)I"⟩
abbrev cX7_unitFor : ByteArray := prog_9_method_57_code
def yX7_unitFor : MethodName := ⟨RX7, "unitFor", "(II)I"⟩
abbrev cX7_waitsForOther : ByteArray := prog_9_method_58_code
def yX7_waitsForOther : MethodName := ⟨RX7, "waitsForOther", "(I)Z"⟩
abbrev cX7_waitsForShared : ByteArray := prog_9_method_59_code
def yX7_waitsForShared : MethodName := ⟨RX7, "waitsForShared", "(I)Z"⟩
abbrev cX7_clean : ByteArray := prog_9_method_60_code
def yX7_clean : MethodName := ⟨RX7, "clean", "()V"⟩
abbrev cX7_reason : ByteArray := prog_9_method_61_code
def yX7_reason : MethodName := ⟨RX7, "reason", "(I)I"⟩
abbrev cX7_waits : ByteArray := prog_9_method_62_code
def yX7_waits : MethodName := ⟨RX7, "waits", "(I)I"⟩
abbrev cX7_sort : ByteArray := prog_9_method_63_code
def yX7_sort : MethodName := ⟨RX7, "sort", "()I"⟩
abbrev cX7_inOrder : ByteArray := prog_9_method_64_code
def yX7_inOrder : MethodName := ⟨RX7, "inOrder", "(I)I"⟩
abbrev cX7_ends : ByteArray := prog_9_method_65_code
def yX7_ends : MethodName := ⟨RX7, "ends", "(I)V"⟩
abbrev cX7_work : ByteArray := prog_9_method_66_code
def yX7_work : MethodName := ⟨RX7, "work", "(I)V"⟩
abbrev cX7_tick : ByteArray := prog_9_method_67_code
def yX7_tick : MethodName := ⟨RX7, "tick", "()V"⟩
abbrev cX7_run : ByteArray := prog_9_method_68_code
def yX7_run : MethodName := ⟨RX7, "run", "(I)I"⟩
abbrev cX7_ticksTo : ByteArray := prog_9_method_69_code
def yX7_ticksTo : MethodName := ⟨RX7, "ticksTo", "(I)I"⟩
abbrev cX7_freeUnits : ByteArray := prog_9_method_70_code
def yX7_freeUnits : MethodName := ⟨RX7, "freeUnits", "()I"⟩
abbrev cX7_worked : ByteArray := prog_9_method_71_code
def yX7_worked : MethodName := ⟨RX7, "worked", "()I"⟩
abbrev cX7_freeShared : ByteArray := prog_9_method_72_code
def yX7_freeShared : MethodName := ⟨RX7, "freeShared", "()I"⟩
abbrev cX7_count : ByteArray := prog_9_method_73_code
def yX7_count : MethodName := ⟨RX7, "count", "(I)I"⟩
abbrev cX7_event : ByteArray := prog_9_method_74_code
def yX7_event : MethodName := ⟨RX7, "event", "(II)I"⟩
abbrev cX7_undo : ByteArray := prog_9_method_75_code
def yX7_undo : MethodName := ⟨RX7, "undo", "()I"⟩
abbrev cX7_type : ByteArray := prog_9_method_76_code
def yX7_type : MethodName := ⟨RX7, "type", "(I)I"⟩
abbrev cX7_clearText : ByteArray := prog_9_method_77_code
def yX7_clearText : MethodName := ⟨RX7, "clearText", "()I"⟩
abbrev cX7_fault : ByteArray := prog_9_method_78_code
def yX7_fault : MethodName := ⟨RX7, "fault", "(I)I"⟩
def RJxf58ca : String := "java/lang/Float"
def TJxf58ca : u_T := fun k => match k with
  | _ => ("", "", "", false)
def tyJxf58ca : Nat → FieldType := fun k => match k with
  | _ => .int
theorem nmJxf58ca : ∀ a, a < 0 → ∀ b, b < 0 → a ≠ b → (TJxf58ca a).2.1 ≠ (TJxf58ca b).2.1 := by decide +kernel
theorem tyJxf58ca_ok : ∀ k, k < 0 → parseFieldDescriptor (TJxf58ca k).2.2.1 = some (tyJxf58ca k) := by decide +kernel
abbrev cJxf58ca_isNaN_12338 : ByteArray := prog_10_method_6_code
def yJxf58ca_isNaN_12338 : MethodName := ⟨RJxf58ca, "isNaN", "(F)Z"⟩
abbrev cJxf58ca_floatToIntBits_5c35a : ByteArray := prog_10_method_24_code
def yJxf58ca_floatToIntBits_5c35a : MethodName := ⟨RJxf58ca, "floatToIntBits", "(F)I"⟩
def RJ10 : String := "java/lang/System"
def TJ10 : u_T := fun k => match k with
  | _ => ("", "", "", false)
def tyJ10 : Nat → FieldType := fun k => match k with
  | _ => .int
theorem nmJ10 : ∀ a, a < 0 → ∀ b, b < 0 → a ≠ b → (TJ10 a).2.1 ≠ (TJ10 b).2.1 := by decide +kernel
theorem tyJ10_ok : ∀ k, k < 0 → parseFieldDescriptor (TJ10 k).2.2.1 = some (tyJ10 k) := by decide +kernel
def RL : String := "BatchExecutiveLaw"
abbrev cL_law : ByteArray := code
def yL_law : MethodName := ⟨RL, "law", "([I)Z"⟩
abbrev vwCl : List vw_C := [(RX0, TX0, 10), (RX1, TX1, 2), (RX2, TX2, 5), (RX3, TX3, 12), (RX4, TX4, 7), (RX5, TX5, 6), (RX6, TX6, 6), (RX7, TX7, 11)]
end
section
/-! the words that every method is given: those of the tables that calls leave as they are -/
def xw : List Cond := lw_tbl.filter goodWord
theorem xw_good : GoodIn lw_tbl xw := fun w h => ⟨(List.mem_filter.mp h).1, good_of_word (List.mem_filter.mp h).2⟩
theorem xw_self {ws : List Cond} (h : ∀ w ∈ ws, w ∈ xw) : GoodIn xw ws := fun w hw => ⟨h w hw, good_of_word (List.mem_filter.mp (h w hw)).2⟩
theorem xw_of (ws : List Cond) (ps : List Nat) (hp : ws = ps.filterMap (fun i => lw_tbl[i]?)) (h : ws.all goodWord = true) : ∀ w ∈ ws, w ∈ xw := by
  intro w hw
  have h1 := List.all_eq_true.mp h w hw
  rw [hp] at hw
  obtain ⟨i, -, hi⟩ := List.mem_filterMap.mp hw
  exact List.mem_filter.mpr ⟨List.mem_of_getElem? hi, h1⟩
set_option maxRecDepth 20000 in
theorem xwc0 : ∀ w ∈ ([.selects RX6 yX6_record yX6_record, .selects RX6 yX6_isUnit yX6_isUnit, .selects RX3 yX3_releasePieces yX3_releasePieces, .selects RX4 yX4_readPhase yX4_readPhase, .selects RX4 yX4_current yX4_current, .selects RX4 yX4_blameCurrent yX4_blameCurrent, .selects RX4 yX4_blame yX4_blame, .selects RX4 yX4_readRest yX4_readRest, .selects RX4 yX4_readNumber yX4_readNumber, .selects RX4 yX4_passes yX4_passes, .selects RX4 yX4_readPiece yX4_readPiece, .selects RX6 yX6_isBatch yX6_isBatch, .selects RX3 yX3_valueOf yX3_valueOf, .selects RX3 yX3_bringToEnd yX3_bringToEnd, .selects RX3 yX3_releaseUnit yX3_releaseUnit, .selects RX3 yX3_unitFor yX3_unitFor, .selects RX3 yX3_insertInOrder yX3_insertInOrder, .selects RX3 yX3_cleanUnits yX3_cleanUnits, .selects RX3 yX3_moveOn yX3_moveOn, .selects RX3 yX3_takeUnit yX3_takeUnit, .selects RX3 yX3_work yX3_work, .selects RX3 yX3_endPhase yX3_endPhase, .selects RX7 yX7_keep yX7_keep, .selects RX7 yX7_putUnit yX7_putUnit, .selects RX7 yX7_isUnit yX7_isUnit, .selects RX7 yX7_ofUnit yX7_ofUnit, .selects RX7 yX7_isActive yX7_isActive, .selects RX7 yX7_of yX7_of, .selects RX7 yX7_holds yX7_holds, .selects RX7 yX7_releaseShared yX7_releaseShared] : List Cond), w ∈ xw := xw_of _ [0, 1, 2, 3, 4, 5, 6, 7, 8, 9, 10, 11, 12, 13, 14, 15, 16, 17, 18, 19, 20, 21, 22, 23, 24, 25, 26, 27, 28, 29] (by decide +kernel) (by decide +kernel)
set_option maxRecDepth 20000 in
theorem xwc1 : ∀ w ∈ ([.selects RX7 yX7_put yX7_put, .selects RX7 yX7_note yX7_note, .selects RX7 yX7_broken yX7_broken, .selects RX7 yX7_isFree yX7_isFree, .selects RX7 yX7_readText yX7_readText, .selects RX7 yX7_readPhase yX7_readPhase, .selects RX7 yX7_here yX7_here, .selects RX7 yX7_isFault yX7_isFault, .selects RX7 yX7_readNumber yX7_readNumber, .selects RX7 yX7_takes yX7_takes, .selects RX7 yX7_phasesOf yX7_phasesOf, .selects RX7 yX7_phaseIn yX7_phaseIn, .selects RX7 yX7_isBatch yX7_isBatch, .selects RX7 yX7_many yX7_many, .selects RX7 yX7_phaseNow yX7_phaseNow, .selects RX7 yX7_phaseAt yX7_phaseAt, .selects RX7 yX7_left yX7_left, .selects RX7 yX7_endsBy yX7_endsBy, .selects RX7 yX7_releaseUnit yX7_releaseUnit, .selects RX7 yX7_batchOf yX7_batchOf, .selects RX7 yX7_clean yX7_clean, .selects RX7 yX7_reason yX7_reason, .selects RX7 yX7_waitsForOther yX7_waitsForOther, .selects RX7 yX7_unitFor yX7_unitFor, .selects RX7 yX7_waitsForShared yX7_waitsForShared, .selects RX7 yX7_sort yX7_sort, .selects RX7 yX7_tick yX7_tick, .selects RX7 yX7_work yX7_work, .selects RX7 yX7_ends yX7_ends, .selects RX7 yX7_freeUnits yX7_freeUnits] : List Cond), w ∈ xw := xw_of _ [30, 31, 32, 33, 34, 35, 36, 37, 38, 39, 40, 41, 42, 43, 44, 45, 46, 47, 48, 49, 50, 51, 52, 53, 54, 55, 56, 57, 58, 59] (by decide +kernel) (by decide +kernel)
set_option maxRecDepth 20000 in
theorem xwc2 : ∀ w ∈ ([.selects RX7 yX7_worked yX7_worked, .selects RX7 yX7_freeShared yX7_freeShared, .initialized RL, .initialized RX6, .initialized RX1, .initialized RX4, .initialized RX3, .initialized RX2, .initialized RX5, .initialized RX0, .initialized RX7, .initialized RJ10, .initialized RJxf58ca, .classLink RL 7 "BatchExecutive", .instantiable RX6 6, .methodLink RL 9 yX6_init, .instanceMethod yX6_init, .code yX6_init cX6_init 2 none, .methodLink RX6 1 objectInit, .instanceMethod objectInit, .code objectInit object_method_1_code 1 none, .classLink RX6 7 "BatchExecutive$Book", .instantiable RX1 2, .instanceMethod yX1_init, .code yX1_init cX1_init 1 none, .methodLink RX1 3 objectInit, .classLink RX1 15 "[[I", .fieldLink RX1 9 "BatchExecutive$Book" "lengths" "[I", .fieldLink RX6 125 "BatchExecutive$Book" "lengths" "[I", .fieldLink RX3 206 "BatchExecutive$Book" "lengths" "[I"] : List Cond), w ∈ xw := xw_of _ [60, 61, 62, 63, 64, 65, 66, 67, 68, 69, 70, 71, 72, 73, 74, 75, 76, 77, 78, 79, 80, 81, 82, 84, 85, 86, 87, 89, 90, 91] (by decide +kernel) (by decide +kernel)
set_option maxRecDepth 20000 in
theorem xwc3 : ∀ w ∈ ([.fieldLink RX1 17 "BatchExecutive$Book" "values" "[[I", .laysFinal RX1 "BatchExecutive$Book" "lengths" "[I", .laysFinal RX1 "BatchExecutive$Book" "values" "[[I", .arrayClass .int, .classLink RX6 16 "BatchExecutive$Text", .instantiable RX4 7, .instanceMethod yX4_init, .code yX4_init cX4_init 1 none, .methodLink RX4 3 objectInit, .classLink RX4 15 "[[I", .fieldLink RX4 9 "BatchExecutive$Text" "characters" "[C", .fieldLink RX4 17 "BatchExecutive$Text" "values" "[[I", .fieldLink RX1 26 "BatchExecutive$Text" "values" "[[I", .fieldLink RX4 20 "BatchExecutive$Text" "length" "I", .fieldLink RX6 256 "BatchExecutive$Text" "length" "I", .fieldLink RX1 20 "BatchExecutive$Text" "phaseCount" "I", .fieldLink RX4 33 "BatchExecutive$Text" "phaseCount" "I", .fieldLink RX4 30 "BatchExecutive$Text" "reason" "I", .fieldLink RX6 112 "BatchExecutive$Text" "reason" "I", .fieldLink RX4 27 "BatchExecutive$Text" "place" "I", .fieldLink RX6 269 "BatchExecutive$Text" "place" "I", .fieldLink RX4 24 "BatchExecutive$Text" "at" "I", .laysFinal RX4 "BatchExecutive$Text" "characters" "[C", .laysFinal RX4 "BatchExecutive$Text" "values" "[[I", .lays RX4 "BatchExecutive$Text" "length" "I", .lays RX4 "BatchExecutive$Text" "phaseCount" "I", .lays RX4 "BatchExecutive$Text" "reason" "I", .lays RX4 "BatchExecutive$Text" "place" "I", .lays RX4 "BatchExecutive$Text" "at" "I", .arrayClass .char] : List Cond), w ∈ xw := xw_of _ [92, 93, 95, 98, 99, 100, 102, 103, 104, 105, 106, 107, 108, 109, 110, 111, 112, 113, 114, 115, 116, 117, 118, 120, 122, 124, 126, 128, 130, 133] (by decide +kernel) (by decide +kernel)
set_option maxRecDepth 20000 in
theorem xwc4 : ∀ w ∈ ([.classLink RX6 23 "BatchExecutive$State", .instantiable RX3 12, .methodLink RX6 25 yX3_init, .instanceMethod yX3_init, .code yX3_init cX3_init 3 none, .methodLink RX3 3 objectInit, .classLink RX3 9 "BatchExecutive$Unit", .classLink RX3 17 "BatchExecutive$Batch", .classLink RX3 30 "BatchExecutive$Journal", .instantiable RX2 5, .instanceMethod yX2_init, .code yX2_init cX2_init 1 none, .methodLink RX2 3 objectInit, .fieldLink RX2 9 "BatchExecutive$Journal" "ticks" "[I", .fieldLink RX2 15 "BatchExecutive$Journal" "batches" "[I", .fieldLink RX2 18 "BatchExecutive$Journal" "happenings" "[I", .fieldLink RX2 25 "BatchExecutive$Journal" "length" "I", .fieldLink RX6 248 "BatchExecutive$Journal" "length" "I", .fieldLink RX2 21 "BatchExecutive$Journal" "next" "I", .laysFinal RX2 "BatchExecutive$Journal" "ticks" "[I", .laysFinal RX2 "BatchExecutive$Journal" "batches" "[I", .laysFinal RX2 "BatchExecutive$Journal" "happenings" "[I", .lays RX2 "BatchExecutive$Journal" "length" "I", .lays RX2 "BatchExecutive$Journal" "next" "I", .instantiable RX5 6, .instanceMethod yX5_init, .code yX5_init cX5_init 1 none, .methodLink RX5 3 objectInit, .fieldLink RX5 9 "BatchExecutive$Unit" "kind" "I", .fieldLink RX6 79 "BatchExecutive$Unit" "kind" "I"] : List Cond), w ∈ xw := xw_of _ [134, 135, 136, 137, 138, 139, 140, 142, 144, 145, 147, 148, 149, 150, 151, 152, 153, 154, 155, 156, 158, 160, 162, 164, 167, 169, 170, 171, 172, 173] (by decide +kernel) (by decide +kernel)
set_option maxRecDepth 20000 in
theorem xwc5 : ∀ w ∈ ([.fieldLink RX3 105 "BatchExecutive$Unit" "kind" "I", .fieldLink RX5 15 "BatchExecutive$Unit" "capacity" "I", .fieldLink RX6 82 "BatchExecutive$Unit" "capacity" "I", .fieldLink RX3 108 "BatchExecutive$Unit" "capacity" "I", .fieldLink RX5 18 "BatchExecutive$Unit" "holder" "I", .fieldLink RX3 83 "BatchExecutive$Unit" "holder" "I", .fieldLink RX6 85 "BatchExecutive$Unit" "holder" "I", .fieldLink RX5 21 "BatchExecutive$Unit" "cleaning" "I", .fieldLink RX6 92 "BatchExecutive$Unit" "cleaning" "I", .fieldLink RX3 117 "BatchExecutive$Unit" "cleaning" "I", .fieldLink RX5 24 "BatchExecutive$Unit" "worked" "I", .fieldLink RX6 95 "BatchExecutive$Unit" "worked" "I", .fieldLink RX3 98 "BatchExecutive$Unit" "worked" "I", .fieldLink RX5 27 "BatchExecutive$Unit" "broken" "Z", .fieldLink RX6 62 "BatchExecutive$Unit" "broken" "Z", .fieldLink RX3 79 "BatchExecutive$Unit" "broken" "Z", .lays RX5 "BatchExecutive$Unit" "kind" "I", .lays RX5 "BatchExecutive$Unit" "capacity" "I", .lays RX5 "BatchExecutive$Unit" "holder" "I", .lays RX5 "BatchExecutive$Unit" "cleaning" "I", .lays RX5 "BatchExecutive$Unit" "worked" "I", .lays RX5 "BatchExecutive$Unit" "broken" "Z", .instantiable RX0 10, .instanceMethod yX0_init, .code yX0_init cX0_init 1 none, .methodLink RX0 3 objectInit, .fieldLink RX0 9 "BatchExecutive$Batch" "recipe" "I", .fieldLink RX3 127 "BatchExecutive$Batch" "recipe" "I", .fieldLink RX6 189 "BatchExecutive$Batch" "recipe" "I", .fieldLink RX0 15 "BatchExecutive$Batch" "version" "I"] : List Cond), w ∈ xw := xw_of _ [174, 175, 176, 177, 178, 179, 180, 181, 182, 183, 184, 185, 186, 187, 188, 189, 190, 192, 194, 196, 198, 200, 203, 205, 206, 207, 208, 209, 210, 211] (by decide +kernel) (by decide +kernel)
set_option maxRecDepth 20000 in
theorem xwc6 : ∀ w ∈ ([.fieldLink RX3 130 "BatchExecutive$Batch" "version" "I", .fieldLink RX6 192 "BatchExecutive$Batch" "version" "I", .fieldLink RX0 18 "BatchExecutive$Batch" "size" "I", .fieldLink RX3 111 "BatchExecutive$Batch" "size" "I", .fieldLink RX6 195 "BatchExecutive$Batch" "size" "I", .fieldLink RX0 21 "BatchExecutive$Batch" "priority" "I", .fieldLink RX6 186 "BatchExecutive$Batch" "priority" "I", .fieldLink RX3 174 "BatchExecutive$Batch" "priority" "I", .fieldLink RX0 24 "BatchExecutive$Batch" "before" "I", .fieldLink RX6 198 "BatchExecutive$Batch" "before" "I", .fieldLink RX3 159 "BatchExecutive$Batch" "before" "I", .fieldLink RX0 27 "BatchExecutive$Batch" "state" "I", .fieldLink RX6 152 "BatchExecutive$Batch" "state" "I", .fieldLink RX3 121 "BatchExecutive$Batch" "state" "I", .fieldLink RX0 30 "BatchExecutive$Batch" "phase" "I", .fieldLink RX3 139 "BatchExecutive$Batch" "phase" "I", .fieldLink RX6 201 "BatchExecutive$Batch" "phase" "I", .fieldLink RX0 33 "BatchExecutive$Batch" "ticksDone" "I", .fieldLink RX3 124 "BatchExecutive$Batch" "ticksDone" "I", .fieldLink RX0 36 "BatchExecutive$Batch" "unit" "I", .fieldLink RX3 114 "BatchExecutive$Batch" "unit" "I", .fieldLink RX6 204 "BatchExecutive$Batch" "unit" "I", .fieldLink RX0 39 "BatchExecutive$Batch" "amount" "F", .fieldLink RX6 210 "BatchExecutive$Batch" "amount" "F", .fieldLink RX3 201 "BatchExecutive$Batch" "amount" "F", .lays RX0 "BatchExecutive$Batch" "recipe" "I", .lays RX0 "BatchExecutive$Batch" "version" "I", .lays RX0 "BatchExecutive$Batch" "size" "I", .lays RX0 "BatchExecutive$Batch" "priority" "I", .lays RX0 "BatchExecutive$Batch" "before" "I"] : List Cond), w ∈ xw := xw_of _ [212, 213, 214, 215, 216, 217, 218, 219, 220, 221, 222, 223, 224, 225, 226, 227, 228, 229, 230, 231, 232, 233, 234, 235, 236, 237, 239, 241, 243, 245] (by decide +kernel) (by decide +kernel)
set_option maxRecDepth 20000 in
theorem xwc7 : ∀ w ∈ ([.lays RX0 "BatchExecutive$Batch" "state" "I", .lays RX0 "BatchExecutive$Batch" "phase" "I", .lays RX0 "BatchExecutive$Batch" "ticksDone" "I", .lays RX0 "BatchExecutive$Batch" "unit" "I", .lays RX0 "BatchExecutive$Batch" "amount" "F", .fieldLink RX3 44 "BatchExecutive$State" "book" "LBatchExecutive$Book;", .fieldLink RX3 11 "BatchExecutive$State" "units" "[LBatchExecutive$Unit;", .fieldLink RX6 58 "BatchExecutive$State" "units" "[LBatchExecutive$Unit;", .fieldLink RX3 19 "BatchExecutive$State" "batches" "[LBatchExecutive$Batch;", .fieldLink RX6 148 "BatchExecutive$State" "batches" "[LBatchExecutive$Batch;", .fieldLink RX3 23 "BatchExecutive$State" "pieceHolders" "[I", .fieldLink RX6 101 "BatchExecutive$State" "pieceHolders" "[I", .fieldLink RX3 27 "BatchExecutive$State" "latestVersions" "[I", .fieldLink RX6 115 "BatchExecutive$State" "latestVersions" "[I", .fieldLink RX3 33 "BatchExecutive$State" "journal" "LBatchExecutive$Journal;", .fieldLink RX6 244 "BatchExecutive$State" "journal" "LBatchExecutive$Journal;", .fieldLink RX3 37 "BatchExecutive$State" "order" "[I", .fieldLink RX6 227 "BatchExecutive$State" "order" "[I", .fieldLink RX3 50 "BatchExecutive$State" "unitCount" "I", .fieldLink RX6 43 "BatchExecutive$State" "unitCount" "I", .fieldLink RX3 57 "BatchExecutive$State" "batchCount" "I", .fieldLink RX6 141 "BatchExecutive$State" "batchCount" "I", .fieldLink RX6 224 "BatchExecutive$State" "orderCount" "I", .fieldLink RX3 168 "BatchExecutive$State" "orderCount" "I", .fieldLink RX3 72 "BatchExecutive$State" "ticks" "I", .fieldLink RX6 230 "BatchExecutive$State" "ticks" "I", .fieldLink RX3 40 "BatchExecutive$State" "cleaning" "I", .fieldLink RX6 105 "BatchExecutive$State" "cleaning" "I", .laysFinal RX3 "BatchExecutive$State" "book" "LBatchExecutive$Book;", .laysFinal RX3 "BatchExecutive$State" "units" "[LBatchExecutive$Unit;"] : List Cond), w ∈ xw := xw_of _ [247, 249, 251, 253, 255, 258, 259, 260, 261, 262, 263, 264, 265, 266, 267, 268, 269, 270, 271, 272, 273, 274, 275, 276, 277, 278, 279, 280, 281, 283] (by decide +kernel) (by decide +kernel)
set_option maxRecDepth 20000 in
theorem xwc8 : ∀ w ∈ ([.laysFinal RX3 "BatchExecutive$State" "batches" "[LBatchExecutive$Batch;", .laysFinal RX3 "BatchExecutive$State" "pieceHolders" "[I", .laysFinal RX3 "BatchExecutive$State" "latestVersions" "[I", .laysFinal RX3 "BatchExecutive$State" "journal" "LBatchExecutive$Journal;", .laysFinal RX3 "BatchExecutive$State" "order" "[I", .lays RX3 "BatchExecutive$State" "unitCount" "I", .lays RX3 "BatchExecutive$State" "batchCount" "I", .lays RX3 "BatchExecutive$State" "orderCount" "I", .lays RX3 "BatchExecutive$State" "ticks" "I", .lays RX3 "BatchExecutive$State" "cleaning" "I", .fieldLink RX6 10 "BatchExecutive" "book" "LBatchExecutive$Book;", .fieldLink RX6 19 "BatchExecutive" "text" "LBatchExecutive$Text;", .fieldLink RX6 28 "BatchExecutive" "present" "LBatchExecutive$State;", .fieldLink RX6 32 "BatchExecutive" "trial" "LBatchExecutive$State;", .fieldLink RX6 35 "BatchExecutive" "past" "[LBatchExecutive$State;", .fieldLink RX6 253 "BatchExecutive" "pastCount" "I", .laysFinal RX6 "BatchExecutive" "book" "LBatchExecutive$Book;", .laysFinal RX6 "BatchExecutive" "text" "LBatchExecutive$Text;", .laysFinal RX6 "BatchExecutive" "present" "LBatchExecutive$State;", .laysFinal RX6 "BatchExecutive" "trial" "LBatchExecutive$State;", .laysFinal RX6 "BatchExecutive" "past" "[LBatchExecutive$State;", .lays RX6 "BatchExecutive" "pastCount" "I", .methodLink RL 13 yX6_unit, .instanceMethod yX6_unit, .selects RX6 yX6_unit yX6_unit, .code yX6_unit cX6_unit 3 (some .int), .methodLink RX6 39 yX6_isWithin, .static yX6_isWithin, .code yX6_isWithin cX6_isWithin 3 (some .boolean), .methodLink RX6 47 yX6_record] : List Cond), w ∈ xw := xw_of _ [285, 287, 289, 291, 293, 295, 297, 299, 301, 303, 307, 308, 309, 310, 311, 312, 313, 315, 317, 319, 321, 323, 326, 327, 328, 329, 330, 331, 332, 333] (by decide +kernel) (by decide +kernel)
set_option maxRecDepth 20000 in
theorem xwc9 : ∀ w ∈ ([.instanceMethod yX6_record, .code yX6_record cX6_record 3 none, .methodLink RX6 237 yX3_copyFrom, .instanceMethod yX3_copyFrom, .selects RX3 yX3_copyFrom yX3_copyFrom, .code yX3_copyFrom cX3_copyFrom 3 none, .methodLink RX3 53 yX5_copyFrom, .instanceMethod yX5_copyFrom, .selects RX5 yX5_copyFrom yX5_copyFrom, .code yX5_copyFrom cX5_copyFrom 2 none, .methodLink RX3 60 yX0_copyFrom, .instanceMethod yX0_copyFrom, .selects RX0 yX0_copyFrom yX0_copyFrom, .code yX0_copyFrom cX0_copyFrom 2 none, .methodLink RX3 63 ⟨"java/lang/System", "arraycopy", "(Ljava/lang/Object;ILjava/lang/Object;II)V"⟩, .static ⟨"java/lang/System", "arraycopy", "(Ljava/lang/Object;ILjava/lang/Object;II)V"⟩, .native ⟨"java/lang/System", "arraycopy", "(Ljava/lang/Object;ILjava/lang/Object;II)V"⟩, .methodLink RX3 69 yX2_copyFrom, .instanceMethod yX2_copyFrom, .selects RX2 yX2_copyFrom yX2_copyFrom, .code yX2_copyFrom cX2_copyFrom 2 none, .methodLink RX2 28 ⟨"java/lang/System", "arraycopy", "(Ljava/lang/Object;ILjava/lang/Object;II)V"⟩, .methodLink RX6 50 yX3_addUnit, .instanceMethod yX3_addUnit, .selects RX3 yX3_addUnit yX3_addUnit, .code yX3_addUnit cX3_addUnit 4 (some .int), .methodLink RX3 75 yX5_reset, .instanceMethod yX5_reset, .selects RX5 yX5_reset yX5_reset, .code yX5_reset cX5_reset 3 none] : List Cond), w ∈ xw := xw_of _ [335, 336, 337, 338, 339, 340, 341, 342, 343, 344, 345, 346, 347, 348, 349, 350, 351, 352, 353, 354, 355, 356, 357, 358, 359, 360, 361, 362, 363, 364] (by decide +kernel) (by decide +kernel)
set_option maxRecDepth 20000 in
theorem xwc10 : ∀ w ∈ ([.methodLink RL 18 yX6_fail, .instanceMethod yX6_fail, .selects RX6 yX6_fail yX6_fail, .code yX6_fail cX6_fail 2 (some .int), .methodLink RX6 54 yX6_isUnit, .instanceMethod yX6_isUnit, .code yX6_isUnit cX6_isUnit 2 (some .boolean), .methodLink RX6 68 yX3_breakUnit, .instanceMethod yX3_breakUnit, .selects RX3 yX3_breakUnit yX3_breakUnit, .code yX3_breakUnit cX3_breakUnit 3 (some .int), .methodLink RX3 86 yX0_isActive, .instanceMethod yX0_isActive, .selects RX0 yX0_isActive yX0_isActive, .code yX0_isActive cX0_isActive 1 (some .boolean), .methodLink RX3 90 yX3_holdBatch, .instanceMethod yX3_holdBatch, .selects RX3 yX3_holdBatch yX3_holdBatch, .code yX3_holdBatch cX3_holdBatch 2 none, .methodLink RX3 146 yX3_releasePieces, .instanceMethod yX3_releasePieces, .code yX3_releasePieces cX3_releasePieces 3 none, .methodLink RX3 149 yX2_add, .instanceMethod yX2_add, .selects RX2 yX2_add yX2_add, .code yX2_add cX2_add 4 none, .methodLink RX6 72 yX6_orNotFound, .static yX6_orNotFound, .code yX6_orNotFound cX6_orNotFound 1 (some .int), .methodLink RL 23 yX6_repair] : List Cond), w ∈ xw := xw_of _ [365, 366, 367, 368, 369, 371, 372, 373, 374, 375, 376, 377, 378, 379, 380, 381, 382, 383, 384, 385, 387, 388, 389, 390, 391, 392, 393, 394, 395, 396] (by decide +kernel) (by decide +kernel)
set_option maxRecDepth 20000 in
theorem xwc11 : ∀ w ∈ ([.instanceMethod yX6_repair, .selects RX6 yX6_repair yX6_repair, .code yX6_repair cX6_repair 2 (some .int), .methodLink RX6 75 yX3_brokenUnits, .instanceMethod yX3_brokenUnits, .selects RX3 yX3_brokenUnits yX3_brokenUnits, .code yX3_brokenUnits cX3_brokenUnits 3 (some .int), .methodLink RL 27 yX6_unitInfo, .instanceMethod yX6_unitInfo, .selects RX6 yX6_unitInfo yX6_unitInfo, .code yX6_unitInfo cX6_unitInfo 4 (some .int), .methodLink RX6 88 yX6_oneIf, .static yX6_oneIf, .code yX6_oneIf cX6_oneIf 1 (some .int), .methodLink RX6 98 yX5_isFreeAfter, .instanceMethod yX5_isFreeAfter, .selects RX5 yX5_isFreeAfter yX5_isFreeAfter, .code yX5_isFreeAfter cX5_isFreeAfter 2 (some .boolean), .methodLink RL 31 yX6_shared, .instanceMethod yX6_shared, .selects RX6 yX6_shared yX6_shared, .code yX6_shared cX6_shared 2 (some .int), .methodLink RL 35 yX6_setCleaning, .instanceMethod yX6_setCleaning, .selects RX6 yX6_setCleaning yX6_setCleaning, .code yX6_setCleaning cX6_setCleaning 3 (some .int), .methodLink RL 39 yX6_recipe, .instanceMethod yX6_recipe, .selects RX6 yX6_recipe yX6_recipe, .code yX6_recipe cX6_recipe 3 (some .int)] : List Cond), w ∈ xw := xw_of _ [397, 398, 399, 400, 401, 402, 403, 404, 405, 406, 407, 408, 409, 410, 411, 412, 413, 414, 415, 416, 417, 418, 419, 420, 421, 422, 423, 424, 425, 426] (by decide +kernel) (by decide +kernel)
set_option maxRecDepth 20000 in
theorem xwc12 : ∀ w ∈ ([.methodLink RX6 106 yX6_isRecipe, .static yX6_isRecipe, .code yX6_isRecipe cX6_isRecipe 1 (some .boolean), .methodLink RX6 109 yX4_read, .instanceMethod yX4_read, .selects RX4 yX4_read yX4_read, .code yX4_read cX4_read 2 none, .methodLink RX4 36 yX4_readPhase, .instanceMethod yX4_readPhase, .code yX4_readPhase cX4_readPhase 2 none, .methodLink RX4 39 yX4_current, .instanceMethod yX4_current, .code yX4_current cX4_current 1 (some .int), .methodLink RX4 43 yX4_kindOf, .static yX4_kindOf, .code yX4_kindOf cX4_kindOf 1 (some .int), .methodLink RX4 47 yX4_blameCurrent, .instanceMethod yX4_blameCurrent, .code yX4_blameCurrent cX4_blameCurrent 1 none, .methodLink RX4 50 yX4_blame, .instanceMethod yX4_blame, .code yX4_blame cX4_blame 3 none, .methodLink RX4 54 yX4_readRest, .instanceMethod yX4_readRest, .code yX4_readRest cX4_readRest 2 none, .methodLink RX4 58 yX4_readNumber, .instanceMethod yX4_readNumber, .code yX4_readNumber cX4_readNumber 6 (some .int), .methodLink RX4 73 yX4_isDigit, .static yX4_isDigit] : List Cond), w ∈ xw := xw_of _ [427, 428, 429, 430, 431, 432, 433, 434, 436, 437, 438, 440, 441, 442, 443, 444, 445, 447, 448, 449, 451, 452, 453, 455, 456, 457, 459, 460, 461, 462] (by decide +kernel) (by decide +kernel)
set_option maxRecDepth 20000 in
theorem xwc13 : ∀ w ∈ ([.code yX4_isDigit cX4_isDigit 1 (some .boolean), .methodLink RX4 62 yX4_passes, .instanceMethod yX4_passes, .code yX4_passes cX4_passes 2 (some .boolean), .methodLink RX4 66 yX4_readPiece, .instanceMethod yX4_readPiece, .code yX4_readPiece cX4_readPiece 2 (some .int), .methodLink RX6 118 yX1_pageOf, .static yX1_pageOf, .code yX1_pageOf cX1_pageOf 2 (some .int), .methodLink RX6 121 yX1_write, .instanceMethod yX1_write, .selects RX1 yX1_write yX1_write, .code yX1_write cX1_write 4 none, .methodLink RX1 27 ⟨"java/lang/System", "arraycopy", "(Ljava/lang/Object;ILjava/lang/Object;II)V"⟩, .methodLink RL 43 yX6_versions, .instanceMethod yX6_versions, .selects RX6 yX6_versions yX6_versions, .code yX6_versions cX6_versions 2 (some .int), .methodLink RL 47 yX6_phase, .instanceMethod yX6_phase, .selects RX6 yX6_phase yX6_phase, .code yX6_phase cX6_phase 6 (some .int), .methodLink RX6 128 yX1_find, .instanceMethod yX1_find, .selects RX1 yX1_find yX1_find, .code yX1_find cX1_find 4 (some .int), .methodLink RL 52 yX6_batch, .instanceMethod yX6_batch, .selects RX6 yX6_batch yX6_batch] : List Cond), w ∈ xw := xw_of _ [463, 464, 466, 467, 468, 470, 471, 473, 474, 475, 476, 477, 478, 479, 480, 481, 482, 483, 484, 485, 486, 487, 488, 489, 490, 491, 492, 493, 494, 495] (by decide +kernel) (by decide +kernel)
set_option maxRecDepth 20000 in
theorem xwc14 : ∀ w ∈ ([.code yX6_batch cX6_batch 5 (some .int), .methodLink RX6 132 yX6_isPriority, .static yX6_isPriority, .code yX6_isPriority cX6_isPriority 1 (some .boolean), .methodLink RX6 135 yX6_isBatch, .instanceMethod yX6_isBatch, .code yX6_isBatch cX6_isBatch 2 (some .boolean), .methodLink RX6 138 yX3_isGivenUp, .instanceMethod yX3_isGivenUp, .selects RX3 yX3_isGivenUp yX3_isGivenUp, .code yX3_isGivenUp cX3_isGivenUp 2 (some .boolean), .methodLink RX6 144 yX3_addBatch, .instanceMethod yX3_addBatch, .selects RX3 yX3_addBatch yX3_addBatch, .code yX3_addBatch cX3_addBatch 6 (some .int), .methodLink RX3 118 yX0_reset, .instanceMethod yX0_reset, .selects RX0 yX0_reset yX0_reset, .code yX0_reset cX0_reset 6 none, .methodLink RL 56 yX6_start, .instanceMethod yX6_start, .selects RX6 yX6_start yX6_start, .code yX6_start cX6_start 2 (some .int), .methodLink RX6 157 yX3_batchesIn, .instanceMethod yX3_batchesIn, .selects RX3 yX3_batchesIn yX3_batchesIn, .code yX3_batchesIn cX3_batchesIn 4 (some .int), .methodLink RL 60 yX6_hold, .instanceMethod yX6_hold, .selects RX6 yX6_hold yX6_hold] : List Cond), w ∈ xw := xw_of _ [496, 497, 498, 499, 500, 502, 503, 504, 505, 506, 507, 508, 509, 510, 511, 512, 513, 514, 515, 516, 517, 518, 519, 520, 521, 522, 523, 524, 525, 526] (by decide +kernel) (by decide +kernel)
set_option maxRecDepth 20000 in
theorem xwc15 : ∀ w ∈ ([.code yX6_hold cX6_hold 2 (some .int), .methodLink RX6 160 yX0_isActive, .methodLink RX6 164 yX3_holdBatch, .methodLink RL 64 yX6_restart, .instanceMethod yX6_restart, .selects RX6 yX6_restart yX6_restart, .code yX6_restart cX6_restart 2 (some .int), .methodLink RX6 168 yX3_hasBrokenUnit, .instanceMethod yX3_hasBrokenUnit, .selects RX3 yX3_hasBrokenUnit yX3_hasBrokenUnit, .code yX3_hasBrokenUnit cX3_hasBrokenUnit 3 (some .boolean), .methodLink RX6 171 yX3_restartBatch, .instanceMethod yX3_restartBatch, .selects RX3 yX3_restartBatch yX3_restartBatch, .code yX3_restartBatch cX3_restartBatch 3 none, .methodLink RX3 101 yX3_valueOf, .instanceMethod yX3_valueOf, .code yX3_valueOf cX3_valueOf 3 (some .int), .methodLink RX3 133 yX1_pageOf, .methodLink RX3 142 yX1_find, .methodLink RX6 174 yX3_ticksLeft, .instanceMethod yX3_ticksLeft, .selects RX3 yX3_ticksLeft yX3_ticksLeft, .code yX3_ticksLeft cX3_ticksLeft 2 (some .int), .methodLink RL 68 yX6_stop, .instanceMethod yX6_stop, .selects RX6 yX6_stop yX6_stop, .code yX6_stop cX6_stop 3 (some .int), .methodLink RX6 177 yX3_stopBatch, .instanceMethod yX3_stopBatch] : List Cond), w ∈ xw := xw_of _ [527, 528, 529, 530, 531, 532, 533, 534, 535, 536, 537, 538, 539, 540, 541, 542, 544, 545, 546, 547, 548, 549, 550, 551, 552, 553, 554, 555, 556, 557] (by decide +kernel) (by decide +kernel)
set_option maxRecDepth 20000 in
theorem xwc16 : ∀ w ∈ ([.selects RX3 yX3_stopBatch yX3_stopBatch, .code yX3_stopBatch cX3_stopBatch 3 none, .methodLink RX3 153 yX0_isUnderWay, .instanceMethod yX0_isUnderWay, .selects RX0 yX0_isUnderWay yX0_isUnderWay, .code yX0_isUnderWay cX0_isUnderWay 1 (some .boolean), .methodLink RX3 156 yX3_bringToEnd, .instanceMethod yX3_bringToEnd, .code yX3_bringToEnd cX3_bringToEnd 4 none, .methodLink RX3 165 yX3_releaseUnit, .instanceMethod yX3_releaseUnit, .code yX3_releaseUnit cX3_releaseUnit 2 none, .methodLink RL 72 yX6_abort, .instanceMethod yX6_abort, .selects RX6 yX6_abort yX6_abort, .code yX6_abort cX6_abort 2 (some .int), .methodLink RX6 180 yX0_isAtEnd, .instanceMethod yX0_isAtEnd, .selects RX0 yX0_isAtEnd yX0_isAtEnd, .code yX0_isAtEnd cX0_isAtEnd 1 (some .boolean), .methodLink RX6 183 yX3_abortWithFollowing, .instanceMethod yX3_abortWithFollowing, .selects RX3 yX3_abortWithFollowing yX3_abortWithFollowing, .code yX3_abortWithFollowing cX3_abortWithFollowing 5 (some .int), .methodLink RX3 162 yX0_isAtEnd, .methodLink RL 76 yX6_priority, .instanceMethod yX6_priority, .selects RX6 yX6_priority yX6_priority, .code yX6_priority cX6_priority 4 (some .int), .methodLink RL 80 yX6_batchInfo] : List Cond), w ∈ xw := xw_of _ [558, 559, 560, 561, 562, 563, 564, 566, 567, 568, 570, 571, 572, 573, 574, 575, 576, 577, 578, 579, 580, 581, 582, 583, 584, 585, 586, 587, 588, 589] (by decide +kernel) (by decide +kernel)
set_option maxRecDepth 20000 in
theorem xwc17 : ∀ w ∈ ([.instanceMethod yX6_batchInfo, .selects RX6 yX6_batchInfo yX6_batchInfo, .code yX6_batchInfo cX6_batchInfo 4 (some .int), .methodLink RX6 207 yX0_isUnderWay, .methodLink RX6 214 yX6_bitsOf, .static yX6_bitsOf, .code yX6_bitsOf cX6_bitsOf 4 (some .int), .constantFloat RX6 272 1258291200, .methodLink RL 84 yX6_waits, .instanceMethod yX6_waits, .selects RX6 yX6_waits yX6_waits, .code yX6_waits cX6_waits 2 (some .int), .methodLink RX6 218 yX3_reasonToWait, .instanceMethod yX3_reasonToWait, .selects RX3 yX3_reasonToWait yX3_reasonToWait, .code yX3_reasonToWait cX3_reasonToWait 5 (some .int), .methodLink RX3 183 yX0_hasBegun, .instanceMethod yX0_hasBegun, .selects RX0 yX0_hasBegun yX0_hasBegun, .code yX0_hasBegun cX0_hasBegun 1 (some .boolean), .methodLink RX3 186 yX3_unitFor, .instanceMethod yX3_unitFor, .code yX3_unitFor cX3_unitFor 6 (some .int), .methodLink RX3 94 yX5_isFreeAfter, .methodLink RL 88 yX6_inOrder, .instanceMethod yX6_inOrder, .selects RX6 yX6_inOrder yX6_inOrder, .code yX6_inOrder cX6_inOrder 2 (some .int), .methodLink RX6 221 yX3_arrange, .instanceMethod yX3_arrange] : List Cond), w ∈ xw := xw_of _ [590, 591, 592, 593, 594, 595, 596, 597, 598, 599, 600, 601, 602, 603, 604, 605, 606, 607, 608, 609, 610, 612, 613, 614, 615, 616, 617, 618, 619, 620] (by decide +kernel) (by decide +kernel)
set_option maxRecDepth 20000 in
theorem xwc18 : ∀ w ∈ ([.selects RX3 yX3_arrange yX3_arrange, .code yX3_arrange cX3_arrange 2 none, .methodLink RX3 171 yX3_insertInOrder, .instanceMethod yX3_insertInOrder, .code yX3_insertInOrder cX3_insertInOrder 3 none, .methodLink RL 92 yX6_run, .instanceMethod yX6_run, .selects RX6 yX6_run yX6_run, .code yX6_run cX6_run 4 (some .int), .constant RX6 233 (50000), .methodLink RX6 234 yX3_passTick, .instanceMethod yX3_passTick, .selects RX3 yX3_passTick yX3_passTick, .code yX3_passTick cX3_passTick 4 (some .boolean), .methodLink RX3 177 yX3_cleanUnits, .instanceMethod yX3_cleanUnits, .code yX3_cleanUnits cX3_cleanUnits 3 (some .boolean), .methodLink RX3 180 yX3_moveOn, .instanceMethod yX3_moveOn, .code yX3_moveOn cX3_moveOn 4 (some .boolean), .methodLink RX3 189 yX3_reasonToWait, .methodLink RX3 192 yX3_takeUnit, .instanceMethod yX3_takeUnit, .code yX3_takeUnit cX3_takeUnit 4 (some .boolean), .methodLink RX3 195 yX3_work, .instanceMethod yX3_work, .code yX3_work cX3_work 4 none, .methodLink RX3 198 yX3_endPhase, .instanceMethod yX3_endPhase, .code yX3_endPhase cX3_endPhase 4 none] : List Cond), w ∈ xw := xw_of _ [621, 622, 623, 625, 626, 627, 628, 629, 630, 631, 632, 633, 634, 635, 636, 638, 639, 640, 642, 643, 644, 645, 647, 648, 649, 651, 652, 653, 655, 656] (by decide +kernel) (by decide +kernel)
set_option maxRecDepth 20000 in
theorem xwc19 : ∀ w ∈ ([.constantFloat RX3 205 1120403456, .methodLink RL 96 yX6_ticksTo, .instanceMethod yX6_ticksTo, .selects RX6 yX6_ticksTo yX6_ticksTo, .code yX6_ticksTo cX6_ticksTo 5 (some .int), .methodLink RL 100 yX6_count, .instanceMethod yX6_count, .selects RX6 yX6_count yX6_count, .code yX6_count cX6_count 2 (some .int), .methodLink RX6 241 yX3_freeUnits, .instanceMethod yX3_freeUnits, .selects RX3 yX3_freeUnits yX3_freeUnits, .code yX3_freeUnits cX3_freeUnits 3 (some .int), .methodLink RX6 257 yX3_workedTicks, .instanceMethod yX3_workedTicks, .selects RX3 yX3_workedTicks yX3_workedTicks, .code yX3_workedTicks cX3_workedTicks 3 (some .int), .methodLink RX6 260 yX3_freePieces, .instanceMethod yX3_freePieces, .selects RX3 yX3_freePieces yX3_freePieces, .code yX3_freePieces cX3_freePieces 3 (some .int), .methodLink RL 104 yX6_event, .instanceMethod yX6_event, .selects RX6 yX6_event yX6_event, .code yX6_event cX6_event 3 (some .int), .methodLink RX6 263 yX2_find, .instanceMethod yX2_find, .selects RX2 yX2_find yX2_find, .code yX2_find cX2_find 4 (some .int), .methodLink RL 108 yX6_undo] : List Cond), w ∈ xw := xw_of _ [657, 658, 659, 660, 661, 662, 663, 664, 665, 666, 667, 668, 669, 670, 671, 672, 673, 674, 675, 676, 677, 678, 679, 680, 681, 682, 683, 684, 685, 686] (by decide +kernel) (by decide +kernel)
set_option maxRecDepth 20000 in
theorem xwc20 : ∀ w ∈ ([.instanceMethod yX6_undo, .selects RX6 yX6_undo yX6_undo, .code yX6_undo cX6_undo 1 (some .int), .methodLink RL 113 yX6_type, .instanceMethod yX6_type, .selects RX6 yX6_type yX6_type, .code yX6_type cX6_type 2 (some .int), .methodLink RX6 265 yX4_append, .instanceMethod yX4_append, .selects RX4 yX4_append yX4_append, .code yX4_append cX4_append 2 none, .methodLink RL 117 yX6_clearText, .instanceMethod yX6_clearText, .selects RX6 yX6_clearText yX6_clearText, .code yX6_clearText cX6_clearText 2 (some .int), .methodLink RL 121 yX6_fault, .instanceMethod yX6_fault, .selects RX6 yX6_fault yX6_fault, .code yX6_fault cX6_fault 2 (some .int), .classLink RL 10 "BatchExecutiveModel", .instantiable RX7 11, .methodLink RL 12 yX7_init, .instanceMethod yX7_init, .code yX7_init cX7_init 2 none, .methodLink RX7 1 objectInit, .fieldLink RX7 7 "BatchExecutiveModel" "m" "[I", .fieldLink RX7 13 "BatchExecutiveModel" "spare" "[I", .fieldLink RX7 16 "BatchExecutiveModel" "saved" "[I", .fieldLink RX7 28 "BatchExecutiveModel" "savedCount" "I", .fieldLink RX7 19 "BatchExecutiveModel" "text" "[I"] : List Cond), w ∈ xw := xw_of _ [687, 688, 689, 690, 691, 692, 693, 694, 695, 696, 697, 698, 699, 700, 701, 702, 703, 704, 705, 706, 707, 708, 709, 710, 711, 712, 713, 714, 715, 716] (by decide +kernel) (by decide +kernel)
set_option maxRecDepth 20000 in
theorem xwc21 : ∀ w ∈ ([.fieldLink RX7 95 "BatchExecutiveModel" "textLength" "I", .fieldLink RX7 92 "BatchExecutiveModel" "at" "I", .fieldLink RX7 98 "BatchExecutiveModel" "faultReason" "I", .fieldLink RX7 101 "BatchExecutiveModel" "number" "I", .fieldLink RX7 22 "BatchExecutiveModel" "read" "[I", .fieldLink RX7 25 "BatchExecutiveModel" "order" "[I", .laysFinal RX7 "BatchExecutiveModel" "m" "[I", .laysFinal RX7 "BatchExecutiveModel" "spare" "[I", .laysFinal RX7 "BatchExecutiveModel" "saved" "[I", .lays RX7 "BatchExecutiveModel" "savedCount" "I", .laysFinal RX7 "BatchExecutiveModel" "text" "[I", .lays RX7 "BatchExecutiveModel" "textLength" "I", .lays RX7 "BatchExecutiveModel" "at" "I", .lays RX7 "BatchExecutiveModel" "faultReason" "I", .lays RX7 "BatchExecutiveModel" "number" "I", .laysFinal RX7 "BatchExecutiveModel" "read" "[I", .laysFinal RX7 "BatchExecutiveModel" "order" "[I", .methodLink RL 17 yX7_unit, .instanceMethod yX7_unit, .selects RX7 yX7_unit yX7_unit, .code yX7_unit cX7_unit 4 (some .int), .methodLink RX7 36 yX7_in, .static yX7_in, .code yX7_in cX7_in 3 (some .boolean), .methodLink RX7 44 yX7_keep, .instanceMethod yX7_keep, .code yX7_keep cX7_keep 2 none, .methodLink RX7 32 yX7_bring, .static yX7_bring, .code yX7_bring cX7_bring 5 none] : List Cond), w ∈ xw := xw_of _ [717, 718, 719, 720, 721, 722, 723, 725, 727, 729, 731, 733, 735, 737, 739, 741, 743, 746, 747, 748, 749, 750, 751, 752, 753, 755, 756, 757, 758, 759] (by decide +kernel) (by decide +kernel)
set_option maxRecDepth 20000 in
theorem xwc22 : ∀ w ∈ ([.methodLink RX7 47 yX7_putUnit, .instanceMethod yX7_putUnit, .code yX7_putUnit cX7_putUnit 4 none, .methodLink RL 22 yX7_fail, .instanceMethod yX7_fail, .selects RX7 yX7_fail yX7_fail, .code yX7_fail cX7_fail 3 (some .int), .methodLink RX7 68 yX7_isUnit, .instanceMethod yX7_isUnit, .code yX7_isUnit cX7_isUnit 2 (some .boolean), .methodLink RX7 51 yX7_ofUnit, .instanceMethod yX7_ofUnit, .code yX7_ofUnit cX7_ofUnit 3 (some .int), .methodLink RX7 72 yX7_isActive, .instanceMethod yX7_isActive, .code yX7_isActive cX7_isActive 2 (some .boolean), .methodLink RX7 40 yX7_of, .instanceMethod yX7_of, .code yX7_of cX7_of 3 (some .int), .methodLink RX7 75 yX7_holds, .instanceMethod yX7_holds, .code yX7_holds cX7_holds 2 none, .methodLink RX7 57 yX7_releaseShared, .instanceMethod yX7_releaseShared, .code yX7_releaseShared cX7_releaseShared 3 none, .methodLink RX7 54 yX7_put, .instanceMethod yX7_put, .code yX7_put cX7_put 4 none, .methodLink RX7 64 yX7_note, .instanceMethod yX7_note] : List Cond), w ∈ xw := xw_of _ [760, 762, 763, 764, 765, 766, 767, 768, 770, 771, 772, 774, 775, 776, 778, 779, 780, 782, 783, 784, 786, 787, 788, 790, 791, 792, 794, 795, 796, 798] (by decide +kernel) (by decide +kernel)
set_option maxRecDepth 20000 in
theorem xwc23 : ∀ w ∈ ([.code yX7_note cX7_note 4 none, .methodLink RL 26 yX7_repair, .instanceMethod yX7_repair, .selects RX7 yX7_repair yX7_repair, .code yX7_repair cX7_repair 2 (some .int), .methodLink RX7 78 yX7_broken, .instanceMethod yX7_broken, .code yX7_broken cX7_broken 3 (some .int), .methodLink RL 30 yX7_unitInfo, .instanceMethod yX7_unitInfo, .selects RX7 yX7_unitInfo yX7_unitInfo, .code yX7_unitInfo cX7_unitInfo 3 (some .int), .methodLink RX7 82 yX7_isFree, .instanceMethod yX7_isFree, .code yX7_isFree cX7_isFree 2 (some .boolean), .methodLink RL 34 yX7_shared, .instanceMethod yX7_shared, .selects RX7 yX7_shared yX7_shared, .code yX7_shared cX7_shared 2 (some .int), .methodLink RL 38 yX7_setCleaning, .instanceMethod yX7_setCleaning, .selects RX7 yX7_setCleaning yX7_setCleaning, .code yX7_setCleaning cX7_setCleaning 3 (some .int), .methodLink RL 42 yX7_recipe, .instanceMethod yX7_recipe, .selects RX7 yX7_recipe yX7_recipe, .code yX7_recipe cX7_recipe 5 (some .int), .methodLink RX7 125 yX7_isRecipe, .static yX7_isRecipe, .code yX7_isRecipe cX7_isRecipe 1 (some .boolean)] : List Cond), w ∈ xw := xw_of _ [799, 800, 801, 802, 803, 804, 806, 807, 808, 809, 810, 811, 812, 814, 815, 816, 817, 818, 819, 820, 821, 822, 823, 824, 825, 826, 827, 828, 829, 830] (by decide +kernel) (by decide +kernel)
set_option maxRecDepth 20000 in
theorem xwc24 : ∀ w ∈ ([.methodLink RX7 128 yX7_readText, .instanceMethod yX7_readText, .code yX7_readText cX7_readText 3 (some .int), .methodLink RX7 122 yX7_readPhase, .instanceMethod yX7_readPhase, .code yX7_readPhase cX7_readPhase 6 (some .boolean), .methodLink RX7 104 yX7_here, .instanceMethod yX7_here, .code yX7_here cX7_here 1 (some .int), .methodLink RX7 111 yX7_kindBy, .static yX7_kindBy, .code yX7_kindBy cX7_kindBy 1 (some .int), .methodLink RX7 107 yX7_isFault, .instanceMethod yX7_isFault, .code yX7_isFault cX7_isFault 1 (some .boolean), .methodLink RX7 115 yX7_readNumber, .instanceMethod yX7_readNumber, .code yX7_readNumber cX7_readNumber 4 (some .boolean), .methodLink RX7 119 yX7_takes, .instanceMethod yX7_takes, .code yX7_takes cX7_takes 3 (some .boolean), .methodLink RL 46 yX7_versions, .instanceMethod yX7_versions, .selects RX7 yX7_versions yX7_versions, .code yX7_versions cX7_versions 2 (some .int), .methodLink RL 51 yX7_phase, .instanceMethod yX7_phase, .selects RX7 yX7_phase yX7_phase, .code yX7_phase cX7_phase 5 (some .int), .methodLink RX7 146 yX7_phasesOf] : List Cond), w ∈ xw := xw_of _ [831, 833, 834, 835, 837, 838, 839, 841, 842, 843, 844, 845, 846, 848, 849, 850, 852, 853, 854, 856, 857, 858, 859, 860, 861, 862, 863, 864, 865, 866] (by decide +kernel) (by decide +kernel)
set_option maxRecDepth 20000 in
theorem xwc25 : ∀ w ∈ ([.instanceMethod yX7_phasesOf, .code yX7_phasesOf cX7_phasesOf 3 (some .int), .methodLink RX7 85 yX7_phaseIn, .instanceMethod yX7_phaseIn, .code yX7_phaseIn cX7_phaseIn 4 (some .int), .methodLink RX7 149 yX7_partOf, .static yX7_partOf, .code yX7_partOf cX7_partOf 2 (some .int), .methodLink RX7 131 yX7_kindOf, .static yX7_kindOf, .code yX7_kindOf cX7_kindOf 1 (some .int), .methodLink RX7 134 yX7_durationOf, .static yX7_durationOf, .code yX7_durationOf cX7_durationOf 1 (some .int), .methodLink RX7 137 yX7_sharedOf, .static yX7_sharedOf, .code yX7_sharedOf cX7_sharedOf 1 (some .int), .methodLink RX7 140 yX7_yieldOf, .static yX7_yieldOf, .code yX7_yieldOf cX7_yieldOf 1 (some .int), .methodLink RX7 143 yX7_markOf, .static yX7_markOf, .code yX7_markOf cX7_markOf 1 (some .int), .methodLink RL 55 yX7_batch, .instanceMethod yX7_batch, .selects RX7 yX7_batch yX7_batch, .code yX7_batch cX7_batch 7 (some .int), .methodLink RX7 152 yX7_isBatch, .instanceMethod yX7_isBatch, .code yX7_isBatch cX7_isBatch 2 (some .boolean)] : List Cond), w ∈ xw := xw_of _ [868, 869, 870, 872, 873, 874, 875, 876, 877, 878, 879, 880, 881, 882, 883, 884, 885, 886, 887, 888, 889, 890, 891, 892, 893, 894, 895, 896, 898, 899] (by decide +kernel) (by decide +kernel)
set_option maxRecDepth 20000 in
theorem xwc26 : ∀ w ∈ ([.methodLink RX7 155 yJxf58ca_floatToIntBits_5c35a, .static yJxf58ca_floatToIntBits_5c35a, .code yJxf58ca_floatToIntBits_5c35a cJxf58ca_floatToIntBits_5c35a 1 (some .int), .methodLink RJxf58ca 59 yJxf58ca_isNaN_12338, .static yJxf58ca_isNaN_12338, .code yJxf58ca_isNaN_12338 cJxf58ca_isNaN_12338 1 (some .boolean), .methodLink RJxf58ca 74 ⟨"java/lang/Float", "floatToRawIntBits", "(F)I"⟩, .static ⟨"java/lang/Float", "floatToRawIntBits", "(F)I"⟩, .native ⟨"java/lang/Float", "floatToRawIntBits", "(F)I"⟩, .constant RJxf58ca 77 (2143289344), .methodLink RL 59 yX7_start, .instanceMethod yX7_start, .selects RX7 yX7_start yX7_start, .code yX7_start cX7_start 2 (some .int), .methodLink RX7 161 yX7_many, .instanceMethod yX7_many, .code yX7_many cX7_many 4 (some .int), .methodLink RL 63 yX7_hold, .instanceMethod yX7_hold, .selects RX7 yX7_hold yX7_hold, .code yX7_hold cX7_hold 2 (some .int), .methodLink RL 67 yX7_restart, .instanceMethod yX7_restart, .selects RX7 yX7_restart yX7_restart, .code yX7_restart cX7_restart 3 (some .int), .methodLink RX7 164 yX7_phaseNow, .instanceMethod yX7_phaseNow, .code yX7_phaseNow cX7_phaseNow 2 (some .int), .methodLink RX7 89 yX7_phaseAt, .instanceMethod yX7_phaseAt] : List Cond), w ∈ xw := xw_of _ [900, 901, 902, 903, 904, 905, 906, 907, 908, 909, 910, 911, 912, 913, 914, 916, 917, 918, 919, 920, 921, 922, 923, 924, 925, 926, 928, 929, 930, 932] (by decide +kernel) (by decide +kernel)
set_option maxRecDepth 20000 in
theorem xwc27 : ∀ w ∈ ([.code yX7_phaseAt cX7_phaseAt 3 (some .int), .methodLink RX7 167 yX7_left, .instanceMethod yX7_left, .code yX7_left cX7_left 2 (some .int), .methodLink RL 71 yX7_stop, .instanceMethod yX7_stop, .selects RX7 yX7_stop yX7_stop, .code yX7_stop cX7_stop 2 (some .int), .methodLink RX7 170 yX7_endsBy, .instanceMethod yX7_endsBy, .code yX7_endsBy cX7_endsBy 4 none, .methodLink RX7 61 yX7_releaseUnit, .instanceMethod yX7_releaseUnit, .code yX7_releaseUnit cX7_releaseUnit 3 none, .methodLink RL 75 yX7_abort, .instanceMethod yX7_abort, .selects RX7 yX7_abort yX7_abort, .code yX7_abort cX7_abort 6 (some .int), .methodLink RL 79 yX7_priority, .instanceMethod yX7_priority, .selects RX7 yX7_priority yX7_priority, .code yX7_priority cX7_priority 4 (some .int), .methodLink RL 83 yX7_batchInfo, .instanceMethod yX7_batchInfo, .selects RX7 yX7_batchInfo yX7_batchInfo, .code yX7_batchInfo cX7_batchInfo 3 (some .int), .methodLink RX7 177 yX7_batchOf, .instanceMethod yX7_batchOf, .code yX7_batchOf cX7_batchOf 3 (some .int), .methodLink RX7 173 ⟨"java/lang/Float", "intBitsToFloat", "(I)F"⟩] : List Cond), w ∈ xw := xw_of _ [933, 934, 936, 937, 938, 939, 940, 941, 942, 944, 945, 946, 948, 949, 950, 951, 952, 953, 954, 955, 956, 957, 958, 959, 960, 961, 962, 964, 965, 966] (by decide +kernel) (by decide +kernel)
set_option maxRecDepth 20000 in
theorem xwc28 : ∀ w ∈ ([.static ⟨"java/lang/Float", "intBitsToFloat", "(I)F"⟩, .native ⟨"java/lang/Float", "intBitsToFloat", "(I)F"⟩, .methodLink RL 87 yX7_waits, .instanceMethod yX7_waits, .selects RX7 yX7_waits yX7_waits, .code yX7_waits cX7_waits 3 (some .int), .methodLink RX7 189 yX7_clean, .instanceMethod yX7_clean, .code yX7_clean cX7_clean 2 none, .methodLink RX7 192 yX7_reason, .instanceMethod yX7_reason, .code yX7_reason cX7_reason 2 (some .int), .methodLink RX7 180 yX7_waitsForOther, .instanceMethod yX7_waitsForOther, .code yX7_waitsForOther cX7_waitsForOther 3 (some .boolean), .methodLink RX7 183 yX7_unitFor, .instanceMethod yX7_unitFor, .code yX7_unitFor cX7_unitFor 4 (some .int), .methodLink RX7 186 yX7_waitsForShared, .instanceMethod yX7_waitsForShared, .code yX7_waitsForShared cX7_waitsForShared 3 (some .boolean), .methodLink RL 91 yX7_inOrder, .instanceMethod yX7_inOrder, .selects RX7 yX7_inOrder yX7_inOrder, .code yX7_inOrder cX7_inOrder 2 (some .int), .methodLink RX7 195 yX7_sort, .instanceMethod yX7_sort, .code yX7_sort cX7_sort 4 (some .int), .methodLink RL 95 yX7_run, .instanceMethod yX7_run] : List Cond), w ∈ xw := xw_of _ [967, 968, 969, 970, 971, 972, 973, 975, 976, 977, 979, 980, 981, 983, 984, 985, 987, 988, 989, 991, 992, 993, 994, 995, 996, 997, 999, 1000, 1001, 1002] (by decide +kernel) (by decide +kernel)
set_option maxRecDepth 20000 in
theorem xwc29 : ∀ w ∈ ([.selects RX7 yX7_run yX7_run, .code yX7_run cX7_run 4 (some .int), .constant RX7 205 (50000), .methodLink RX7 206 yX7_tick, .instanceMethod yX7_tick, .code yX7_tick cX7_tick 3 none, .methodLink RX7 202 yX7_work, .instanceMethod yX7_work, .code yX7_work cX7_work 4 none, .methodLink RX7 199 yX7_ends, .instanceMethod yX7_ends, .code yX7_ends cX7_ends 5 none, .constantFloat RX7 198 1120403456, .methodLink RL 99 yX7_ticksTo, .instanceMethod yX7_ticksTo, .selects RX7 yX7_ticksTo yX7_ticksTo, .code yX7_ticksTo cX7_ticksTo 4 (some .int), .methodLink RL 103 yX7_count, .instanceMethod yX7_count, .selects RX7 yX7_count yX7_count, .code yX7_count cX7_count 2 (some .int), .methodLink RX7 209 yX7_freeUnits, .instanceMethod yX7_freeUnits, .code yX7_freeUnits cX7_freeUnits 3 (some .int), .methodLink RX7 212 yX7_worked, .instanceMethod yX7_worked, .code yX7_worked cX7_worked 3 (some .int), .methodLink RX7 215 yX7_freeShared, .instanceMethod yX7_freeShared, .code yX7_freeShared cX7_freeShared 3 (some .int)] : List Cond), w ∈ xw := xw_of _ [1003, 1004, 1005, 1006, 1008, 1009, 1010, 1012, 1013, 1014, 1016, 1017, 1018, 1019, 1020, 1021, 1022, 1023, 1024, 1025, 1026, 1027, 1029, 1030, 1031, 1033, 1034, 1035, 1037, 1038] (by decide +kernel) (by decide +kernel)
set_option maxRecDepth 20000 in
theorem xwc30 : ∀ w ∈ ([.methodLink RL 107 yX7_event, .instanceMethod yX7_event, .selects RX7 yX7_event yX7_event, .code yX7_event cX7_event 3 (some .int), .methodLink RL 112 yX7_undo, .instanceMethod yX7_undo, .selects RX7 yX7_undo yX7_undo, .code yX7_undo cX7_undo 1 (some .int), .methodLink RL 116 yX7_type, .instanceMethod yX7_type, .selects RX7 yX7_type yX7_type, .code yX7_type cX7_type 2 (some .int), .methodLink RL 120 yX7_clearText, .instanceMethod yX7_clearText, .selects RX7 yX7_clearText yX7_clearText, .code yX7_clearText cX7_clearText 2 (some .int), .methodLink RL 124 yX7_fault, .instanceMethod yX7_fault, .selects RX7 yX7_fault yX7_fault, .code yX7_fault cX7_fault 2 (some .int)] : List Cond), w ∈ xw := xw_of _ [1039, 1040, 1041, 1042, 1043, 1044, 1045, 1046, 1047, 1048, 1049, 1050, 1051, 1052, 1053, 1054, 1055, 1056, 1057, 1058] (by decide +kernel) (by decide +kernel)
/-- a field link of a class's code: own's entry idx names field k of class ci -/
def LkG (own : String) (idx ci k : Nat) : Prop := ∃ (C : String) (T : u_T) (N : Nat), vwCl[ci]? = some (C, T, N) ∧ k < N ∧ (∀ w ∈ u_ws C T N, w ∈ xw) ∧ Cond.fieldLink own idx (T k).1 (T k).2.1 (T k).2.2.1 ∈ xw
def LkP (own : String) (idx ci k : Nat) (ty : FieldType) (fin : Bool) : Prop := ∃ (C : String) (T : u_T) (N : Nat) (tys : Nat → FieldType), vwCl[ci]? = some (C, T, N) ∧ k < N ∧ (∀ w ∈ u_ws C T N, w ∈ xw) ∧ Cond.fieldLink own idx (T k).1 (T k).2.1 (T k).2.2.1 ∈ xw ∧
  (∀ k, k < N → parseFieldDescriptor (T k).2.2.1 = some (tys k)) ∧ (∀ a, a < N → ∀ b, b < N → a ≠ b → (T a).2.1 ≠ (T b).2.1) ∧ (T k).2.2.2 = fin ∧ parseFieldDescriptor (T k).2.2.1 = some ty ∧ (T k).1 = C
/-- a method link: virtual, static, a constructor -/
def LkV (own : String) (idx : Nat) (y : MethodName) (cc : ByteArray) (nL : Nat) (ret : Option FieldType) (ci n : Nat) : Prop := Cond.methodLink own idx y ∈ xw ∧ Cond.instanceMethod y ∈ xw ∧ Cond.selects y.cls y y ∈ xw ∧ Cond.initialized y.cls ∈ xw ∧ Cond.code y cc nL ret ∈ xw ∧ (y.cls ≠ "java/lang/invoke/MethodHandle" ∧ y.cls ≠ "java/lang/invoke/VarHandle" ∧ (parseMethodDescriptor y.desc).map (fun d => d.parameters.length) = some n) ∧ ∃ T N, vwCl[ci]? = some (y.cls, T, N)
def LkS (own : String) (idx : Nat) (y : MethodName) (cc : ByteArray) (nL : Nat) (ret : Option FieldType) (n : Nat) : Prop := Cond.methodLink own idx y ∈ xw ∧ Cond.static y ∈ xw ∧ Cond.initialized y.cls ∈ xw ∧ Cond.code y cc nL ret ∈ xw ∧ (y.cls ≠ "java/lang/invoke/MethodHandle" ∧ y.cls ≠ "java/lang/invoke/VarHandle" ∧ (parseMethodDescriptor y.desc).map (fun d => d.parameters.length) = some n)
def LkSN (y : MethodName) (cc : ByteArray) (nL : Nat) (ret : Option FieldType) (n : Nat) : Prop := Cond.static y ∈ xw ∧ Cond.initialized y.cls ∈ xw ∧ Cond.code y cc nL ret ∈ xw ∧ (y.cls ≠ "java/lang/invoke/MethodHandle" ∧ y.cls ≠ "java/lang/invoke/VarHandle" ∧ (parseMethodDescriptor y.desc).map (fun d => d.parameters.length) = some n)
/-- a constructor's words, its link apart -/
def LkI (y : MethodName) (cc : ByteArray) (nL n : Nat) : Prop := Cond.instanceMethod y ∈ xw ∧ Cond.initialized y.cls ∈ xw ∧ Cond.code y cc nL none ∈ xw ∧ (y.cls ≠ "java/lang/invoke/MethodHandle" ∧ y.cls ≠ "java/lang/invoke/VarHandle" ∧ (parseMethodDescriptor y.desc).map (fun d => d.parameters.length) = some n) ∧ y.name = "<init>"
/-- a class that 'new' makes -/
def LkN (own : String) (idx ci : Nat) : Prop := ∃ (C : String) (T : u_T) (N : Nat) (tys : Nat → FieldType), vwCl[ci]? = some (C, T, N) ∧ (∀ w ∈ u_ws C T N, w ∈ xw) ∧ (∀ k, k < N → parseFieldDescriptor (T k).2.2.1 = some (tys k)) ∧ Cond.classLink own idx C ∈ xw ∧ Cond.instantiable C N ∈ xw ∧ Cond.initialized C ∈ xw
set_option maxRecDepth 20000 in
theorem xlay0 : ∀ w ∈ u_ws RX0 TX0 10, w ∈ xw := xw_of _ [237, 239, 241, 243, 245, 247, 249, 251, 253, 255] (by decide +kernel) (by decide +kernel)
set_option maxRecDepth 20000 in
theorem xlay1 : ∀ w ∈ u_ws RX1 TX1 2, w ∈ xw := xw_of _ [93, 95] (by decide +kernel) (by decide +kernel)
set_option maxRecDepth 20000 in
theorem xlay2 : ∀ w ∈ u_ws RX2 TX2 5, w ∈ xw := xw_of _ [156, 158, 160, 162, 164] (by decide +kernel) (by decide +kernel)
set_option maxRecDepth 20000 in
theorem xlay3 : ∀ w ∈ u_ws RX3 TX3 12, w ∈ xw := xw_of _ [281, 283, 285, 287, 289, 291, 293, 295, 297, 299, 301, 303] (by decide +kernel) (by decide +kernel)
set_option maxRecDepth 20000 in
theorem xlay4 : ∀ w ∈ u_ws RX4 TX4 7, w ∈ xw := xw_of _ [118, 120, 122, 124, 126, 128, 130] (by decide +kernel) (by decide +kernel)
set_option maxRecDepth 20000 in
theorem xlay5 : ∀ w ∈ u_ws RX5 TX5 6, w ∈ xw := xw_of _ [190, 192, 194, 196, 198, 200] (by decide +kernel) (by decide +kernel)
set_option maxRecDepth 20000 in
theorem xlay6 : ∀ w ∈ u_ws RX6 TX6 6, w ∈ xw := xw_of _ [313, 315, 317, 319, 321, 323] (by decide +kernel) (by decide +kernel)
set_option maxRecDepth 20000 in
theorem xlay7 : ∀ w ∈ u_ws RX7 TX7 11, w ∈ xw := xw_of _ [723, 725, 727, 729, 731, 733, 735, 737, 739, 741, 743] (by decide +kernel) (by decide +kernel)
theorem fgX1_9 : LkG RX1 9 1 0 := ⟨RX1, TX1, 2, rfl, by decide, xlay1, (xwc2 _ (List.mem_of_getElem? (i := 27) rfl))⟩
theorem fpX1_9 : LkP RX1 9 1 0 (.array .int) true := ⟨RX1, TX1, 2, tyX1, rfl, by decide, xlay1, (xwc2 _ (List.mem_of_getElem? (i := 27) rfl)), tyX1_ok, nmX1, rfl, by decide +kernel, rfl⟩
theorem fgX6_125 : LkG RX6 125 1 0 := ⟨RX1, TX1, 2, rfl, by decide, xlay1, (xwc2 _ (List.mem_of_getElem? (i := 28) rfl))⟩
theorem fpX6_125 : LkP RX6 125 1 0 (.array .int) true := ⟨RX1, TX1, 2, tyX1, rfl, by decide, xlay1, (xwc2 _ (List.mem_of_getElem? (i := 28) rfl)), tyX1_ok, nmX1, rfl, by decide +kernel, rfl⟩
theorem fgX3_206 : LkG RX3 206 1 0 := ⟨RX1, TX1, 2, rfl, by decide, xlay1, (xwc2 _ (List.mem_of_getElem? (i := 29) rfl))⟩
theorem fpX3_206 : LkP RX3 206 1 0 (.array .int) true := ⟨RX1, TX1, 2, tyX1, rfl, by decide, xlay1, (xwc2 _ (List.mem_of_getElem? (i := 29) rfl)), tyX1_ok, nmX1, rfl, by decide +kernel, rfl⟩
theorem fgX1_17 : LkG RX1 17 1 1 := ⟨RX1, TX1, 2, rfl, by decide, xlay1, (xwc3 _ (List.mem_of_getElem? (i := 0) rfl))⟩
theorem fpX1_17 : LkP RX1 17 1 1 (.array (.array .int)) true := ⟨RX1, TX1, 2, tyX1, rfl, by decide, xlay1, (xwc3 _ (List.mem_of_getElem? (i := 0) rfl)), tyX1_ok, nmX1, rfl, by decide +kernel, rfl⟩
theorem fgX4_9 : LkG RX4 9 4 0 := ⟨RX4, TX4, 7, rfl, by decide, xlay4, (xwc3 _ (List.mem_of_getElem? (i := 10) rfl))⟩
theorem fpX4_9 : LkP RX4 9 4 0 (.array .char) true := ⟨RX4, TX4, 7, tyX4, rfl, by decide, xlay4, (xwc3 _ (List.mem_of_getElem? (i := 10) rfl)), tyX4_ok, nmX4, rfl, by decide +kernel, rfl⟩
theorem fgX4_17 : LkG RX4 17 4 1 := ⟨RX4, TX4, 7, rfl, by decide, xlay4, (xwc3 _ (List.mem_of_getElem? (i := 11) rfl))⟩
theorem fpX4_17 : LkP RX4 17 4 1 (.array (.array .int)) true := ⟨RX4, TX4, 7, tyX4, rfl, by decide, xlay4, (xwc3 _ (List.mem_of_getElem? (i := 11) rfl)), tyX4_ok, nmX4, rfl, by decide +kernel, rfl⟩
theorem fgX1_26 : LkG RX1 26 4 1 := ⟨RX4, TX4, 7, rfl, by decide, xlay4, (xwc3 _ (List.mem_of_getElem? (i := 12) rfl))⟩
theorem fpX1_26 : LkP RX1 26 4 1 (.array (.array .int)) true := ⟨RX4, TX4, 7, tyX4, rfl, by decide, xlay4, (xwc3 _ (List.mem_of_getElem? (i := 12) rfl)), tyX4_ok, nmX4, rfl, by decide +kernel, rfl⟩
theorem fgX4_20 : LkG RX4 20 4 2 := ⟨RX4, TX4, 7, rfl, by decide, xlay4, (xwc3 _ (List.mem_of_getElem? (i := 13) rfl))⟩
theorem fpX4_20 : LkP RX4 20 4 2 .int false := ⟨RX4, TX4, 7, tyX4, rfl, by decide, xlay4, (xwc3 _ (List.mem_of_getElem? (i := 13) rfl)), tyX4_ok, nmX4, rfl, by decide +kernel, rfl⟩
theorem fgX6_256 : LkG RX6 256 4 2 := ⟨RX4, TX4, 7, rfl, by decide, xlay4, (xwc3 _ (List.mem_of_getElem? (i := 14) rfl))⟩
theorem fpX6_256 : LkP RX6 256 4 2 .int false := ⟨RX4, TX4, 7, tyX4, rfl, by decide, xlay4, (xwc3 _ (List.mem_of_getElem? (i := 14) rfl)), tyX4_ok, nmX4, rfl, by decide +kernel, rfl⟩
theorem fgX1_20 : LkG RX1 20 4 3 := ⟨RX4, TX4, 7, rfl, by decide, xlay4, (xwc3 _ (List.mem_of_getElem? (i := 15) rfl))⟩
theorem fpX1_20 : LkP RX1 20 4 3 .int false := ⟨RX4, TX4, 7, tyX4, rfl, by decide, xlay4, (xwc3 _ (List.mem_of_getElem? (i := 15) rfl)), tyX4_ok, nmX4, rfl, by decide +kernel, rfl⟩
theorem fgX4_33 : LkG RX4 33 4 3 := ⟨RX4, TX4, 7, rfl, by decide, xlay4, (xwc3 _ (List.mem_of_getElem? (i := 16) rfl))⟩
theorem fpX4_33 : LkP RX4 33 4 3 .int false := ⟨RX4, TX4, 7, tyX4, rfl, by decide, xlay4, (xwc3 _ (List.mem_of_getElem? (i := 16) rfl)), tyX4_ok, nmX4, rfl, by decide +kernel, rfl⟩
theorem fgX4_30 : LkG RX4 30 4 4 := ⟨RX4, TX4, 7, rfl, by decide, xlay4, (xwc3 _ (List.mem_of_getElem? (i := 17) rfl))⟩
theorem fpX4_30 : LkP RX4 30 4 4 .int false := ⟨RX4, TX4, 7, tyX4, rfl, by decide, xlay4, (xwc3 _ (List.mem_of_getElem? (i := 17) rfl)), tyX4_ok, nmX4, rfl, by decide +kernel, rfl⟩
theorem fgX6_112 : LkG RX6 112 4 4 := ⟨RX4, TX4, 7, rfl, by decide, xlay4, (xwc3 _ (List.mem_of_getElem? (i := 18) rfl))⟩
theorem fpX6_112 : LkP RX6 112 4 4 .int false := ⟨RX4, TX4, 7, tyX4, rfl, by decide, xlay4, (xwc3 _ (List.mem_of_getElem? (i := 18) rfl)), tyX4_ok, nmX4, rfl, by decide +kernel, rfl⟩
theorem fgX4_27 : LkG RX4 27 4 5 := ⟨RX4, TX4, 7, rfl, by decide, xlay4, (xwc3 _ (List.mem_of_getElem? (i := 19) rfl))⟩
theorem fpX4_27 : LkP RX4 27 4 5 .int false := ⟨RX4, TX4, 7, tyX4, rfl, by decide, xlay4, (xwc3 _ (List.mem_of_getElem? (i := 19) rfl)), tyX4_ok, nmX4, rfl, by decide +kernel, rfl⟩
theorem fgX6_269 : LkG RX6 269 4 5 := ⟨RX4, TX4, 7, rfl, by decide, xlay4, (xwc3 _ (List.mem_of_getElem? (i := 20) rfl))⟩
theorem fpX6_269 : LkP RX6 269 4 5 .int false := ⟨RX4, TX4, 7, tyX4, rfl, by decide, xlay4, (xwc3 _ (List.mem_of_getElem? (i := 20) rfl)), tyX4_ok, nmX4, rfl, by decide +kernel, rfl⟩
theorem fgX4_24 : LkG RX4 24 4 6 := ⟨RX4, TX4, 7, rfl, by decide, xlay4, (xwc3 _ (List.mem_of_getElem? (i := 21) rfl))⟩
theorem fpX4_24 : LkP RX4 24 4 6 .int false := ⟨RX4, TX4, 7, tyX4, rfl, by decide, xlay4, (xwc3 _ (List.mem_of_getElem? (i := 21) rfl)), tyX4_ok, nmX4, rfl, by decide +kernel, rfl⟩
theorem fgX2_9 : LkG RX2 9 2 0 := ⟨RX2, TX2, 5, rfl, by decide, xlay2, (xwc4 _ (List.mem_of_getElem? (i := 13) rfl))⟩
theorem fpX2_9 : LkP RX2 9 2 0 (.array .int) true := ⟨RX2, TX2, 5, tyX2, rfl, by decide, xlay2, (xwc4 _ (List.mem_of_getElem? (i := 13) rfl)), tyX2_ok, nmX2, rfl, by decide +kernel, rfl⟩
theorem fgX2_15 : LkG RX2 15 2 1 := ⟨RX2, TX2, 5, rfl, by decide, xlay2, (xwc4 _ (List.mem_of_getElem? (i := 14) rfl))⟩
theorem fpX2_15 : LkP RX2 15 2 1 (.array .int) true := ⟨RX2, TX2, 5, tyX2, rfl, by decide, xlay2, (xwc4 _ (List.mem_of_getElem? (i := 14) rfl)), tyX2_ok, nmX2, rfl, by decide +kernel, rfl⟩
theorem fgX2_18 : LkG RX2 18 2 2 := ⟨RX2, TX2, 5, rfl, by decide, xlay2, (xwc4 _ (List.mem_of_getElem? (i := 15) rfl))⟩
theorem fpX2_18 : LkP RX2 18 2 2 (.array .int) true := ⟨RX2, TX2, 5, tyX2, rfl, by decide, xlay2, (xwc4 _ (List.mem_of_getElem? (i := 15) rfl)), tyX2_ok, nmX2, rfl, by decide +kernel, rfl⟩
theorem fgX2_25 : LkG RX2 25 2 3 := ⟨RX2, TX2, 5, rfl, by decide, xlay2, (xwc4 _ (List.mem_of_getElem? (i := 16) rfl))⟩
theorem fpX2_25 : LkP RX2 25 2 3 .int false := ⟨RX2, TX2, 5, tyX2, rfl, by decide, xlay2, (xwc4 _ (List.mem_of_getElem? (i := 16) rfl)), tyX2_ok, nmX2, rfl, by decide +kernel, rfl⟩
theorem fgX6_248 : LkG RX6 248 2 3 := ⟨RX2, TX2, 5, rfl, by decide, xlay2, (xwc4 _ (List.mem_of_getElem? (i := 17) rfl))⟩
theorem fpX6_248 : LkP RX6 248 2 3 .int false := ⟨RX2, TX2, 5, tyX2, rfl, by decide, xlay2, (xwc4 _ (List.mem_of_getElem? (i := 17) rfl)), tyX2_ok, nmX2, rfl, by decide +kernel, rfl⟩
theorem fgX2_21 : LkG RX2 21 2 4 := ⟨RX2, TX2, 5, rfl, by decide, xlay2, (xwc4 _ (List.mem_of_getElem? (i := 18) rfl))⟩
theorem fpX2_21 : LkP RX2 21 2 4 .int false := ⟨RX2, TX2, 5, tyX2, rfl, by decide, xlay2, (xwc4 _ (List.mem_of_getElem? (i := 18) rfl)), tyX2_ok, nmX2, rfl, by decide +kernel, rfl⟩
theorem fgX5_9 : LkG RX5 9 5 0 := ⟨RX5, TX5, 6, rfl, by decide, xlay5, (xwc4 _ (List.mem_of_getElem? (i := 28) rfl))⟩
theorem fpX5_9 : LkP RX5 9 5 0 .int false := ⟨RX5, TX5, 6, tyX5, rfl, by decide, xlay5, (xwc4 _ (List.mem_of_getElem? (i := 28) rfl)), tyX5_ok, nmX5, rfl, by decide +kernel, rfl⟩
theorem fgX6_79 : LkG RX6 79 5 0 := ⟨RX5, TX5, 6, rfl, by decide, xlay5, (xwc4 _ (List.mem_of_getElem? (i := 29) rfl))⟩
theorem fpX6_79 : LkP RX6 79 5 0 .int false := ⟨RX5, TX5, 6, tyX5, rfl, by decide, xlay5, (xwc4 _ (List.mem_of_getElem? (i := 29) rfl)), tyX5_ok, nmX5, rfl, by decide +kernel, rfl⟩
theorem fgX3_105 : LkG RX3 105 5 0 := ⟨RX5, TX5, 6, rfl, by decide, xlay5, (xwc5 _ (List.mem_of_getElem? (i := 0) rfl))⟩
theorem fpX3_105 : LkP RX3 105 5 0 .int false := ⟨RX5, TX5, 6, tyX5, rfl, by decide, xlay5, (xwc5 _ (List.mem_of_getElem? (i := 0) rfl)), tyX5_ok, nmX5, rfl, by decide +kernel, rfl⟩
theorem fgX5_15 : LkG RX5 15 5 1 := ⟨RX5, TX5, 6, rfl, by decide, xlay5, (xwc5 _ (List.mem_of_getElem? (i := 1) rfl))⟩
theorem fpX5_15 : LkP RX5 15 5 1 .int false := ⟨RX5, TX5, 6, tyX5, rfl, by decide, xlay5, (xwc5 _ (List.mem_of_getElem? (i := 1) rfl)), tyX5_ok, nmX5, rfl, by decide +kernel, rfl⟩
theorem fgX6_82 : LkG RX6 82 5 1 := ⟨RX5, TX5, 6, rfl, by decide, xlay5, (xwc5 _ (List.mem_of_getElem? (i := 2) rfl))⟩
theorem fpX6_82 : LkP RX6 82 5 1 .int false := ⟨RX5, TX5, 6, tyX5, rfl, by decide, xlay5, (xwc5 _ (List.mem_of_getElem? (i := 2) rfl)), tyX5_ok, nmX5, rfl, by decide +kernel, rfl⟩
theorem fgX3_108 : LkG RX3 108 5 1 := ⟨RX5, TX5, 6, rfl, by decide, xlay5, (xwc5 _ (List.mem_of_getElem? (i := 3) rfl))⟩
theorem fpX3_108 : LkP RX3 108 5 1 .int false := ⟨RX5, TX5, 6, tyX5, rfl, by decide, xlay5, (xwc5 _ (List.mem_of_getElem? (i := 3) rfl)), tyX5_ok, nmX5, rfl, by decide +kernel, rfl⟩
theorem fgX5_18 : LkG RX5 18 5 2 := ⟨RX5, TX5, 6, rfl, by decide, xlay5, (xwc5 _ (List.mem_of_getElem? (i := 4) rfl))⟩
theorem fpX5_18 : LkP RX5 18 5 2 .int false := ⟨RX5, TX5, 6, tyX5, rfl, by decide, xlay5, (xwc5 _ (List.mem_of_getElem? (i := 4) rfl)), tyX5_ok, nmX5, rfl, by decide +kernel, rfl⟩
theorem fgX3_83 : LkG RX3 83 5 2 := ⟨RX5, TX5, 6, rfl, by decide, xlay5, (xwc5 _ (List.mem_of_getElem? (i := 5) rfl))⟩
theorem fpX3_83 : LkP RX3 83 5 2 .int false := ⟨RX5, TX5, 6, tyX5, rfl, by decide, xlay5, (xwc5 _ (List.mem_of_getElem? (i := 5) rfl)), tyX5_ok, nmX5, rfl, by decide +kernel, rfl⟩
theorem fgX6_85 : LkG RX6 85 5 2 := ⟨RX5, TX5, 6, rfl, by decide, xlay5, (xwc5 _ (List.mem_of_getElem? (i := 6) rfl))⟩
theorem fpX6_85 : LkP RX6 85 5 2 .int false := ⟨RX5, TX5, 6, tyX5, rfl, by decide, xlay5, (xwc5 _ (List.mem_of_getElem? (i := 6) rfl)), tyX5_ok, nmX5, rfl, by decide +kernel, rfl⟩
theorem fgX5_21 : LkG RX5 21 5 3 := ⟨RX5, TX5, 6, rfl, by decide, xlay5, (xwc5 _ (List.mem_of_getElem? (i := 7) rfl))⟩
theorem fpX5_21 : LkP RX5 21 5 3 .int false := ⟨RX5, TX5, 6, tyX5, rfl, by decide, xlay5, (xwc5 _ (List.mem_of_getElem? (i := 7) rfl)), tyX5_ok, nmX5, rfl, by decide +kernel, rfl⟩
theorem fgX6_92 : LkG RX6 92 5 3 := ⟨RX5, TX5, 6, rfl, by decide, xlay5, (xwc5 _ (List.mem_of_getElem? (i := 8) rfl))⟩
theorem fpX6_92 : LkP RX6 92 5 3 .int false := ⟨RX5, TX5, 6, tyX5, rfl, by decide, xlay5, (xwc5 _ (List.mem_of_getElem? (i := 8) rfl)), tyX5_ok, nmX5, rfl, by decide +kernel, rfl⟩
theorem fgX3_117 : LkG RX3 117 5 3 := ⟨RX5, TX5, 6, rfl, by decide, xlay5, (xwc5 _ (List.mem_of_getElem? (i := 9) rfl))⟩
theorem fpX3_117 : LkP RX3 117 5 3 .int false := ⟨RX5, TX5, 6, tyX5, rfl, by decide, xlay5, (xwc5 _ (List.mem_of_getElem? (i := 9) rfl)), tyX5_ok, nmX5, rfl, by decide +kernel, rfl⟩
theorem fgX5_24 : LkG RX5 24 5 4 := ⟨RX5, TX5, 6, rfl, by decide, xlay5, (xwc5 _ (List.mem_of_getElem? (i := 10) rfl))⟩
theorem fpX5_24 : LkP RX5 24 5 4 .int false := ⟨RX5, TX5, 6, tyX5, rfl, by decide, xlay5, (xwc5 _ (List.mem_of_getElem? (i := 10) rfl)), tyX5_ok, nmX5, rfl, by decide +kernel, rfl⟩
theorem fgX6_95 : LkG RX6 95 5 4 := ⟨RX5, TX5, 6, rfl, by decide, xlay5, (xwc5 _ (List.mem_of_getElem? (i := 11) rfl))⟩
theorem fpX6_95 : LkP RX6 95 5 4 .int false := ⟨RX5, TX5, 6, tyX5, rfl, by decide, xlay5, (xwc5 _ (List.mem_of_getElem? (i := 11) rfl)), tyX5_ok, nmX5, rfl, by decide +kernel, rfl⟩
theorem fgX3_98 : LkG RX3 98 5 4 := ⟨RX5, TX5, 6, rfl, by decide, xlay5, (xwc5 _ (List.mem_of_getElem? (i := 12) rfl))⟩
theorem fpX3_98 : LkP RX3 98 5 4 .int false := ⟨RX5, TX5, 6, tyX5, rfl, by decide, xlay5, (xwc5 _ (List.mem_of_getElem? (i := 12) rfl)), tyX5_ok, nmX5, rfl, by decide +kernel, rfl⟩
theorem fgX5_27 : LkG RX5 27 5 5 := ⟨RX5, TX5, 6, rfl, by decide, xlay5, (xwc5 _ (List.mem_of_getElem? (i := 13) rfl))⟩
theorem fpX5_27 : LkP RX5 27 5 5 .boolean false := ⟨RX5, TX5, 6, tyX5, rfl, by decide, xlay5, (xwc5 _ (List.mem_of_getElem? (i := 13) rfl)), tyX5_ok, nmX5, rfl, by decide +kernel, rfl⟩
theorem fgX6_62 : LkG RX6 62 5 5 := ⟨RX5, TX5, 6, rfl, by decide, xlay5, (xwc5 _ (List.mem_of_getElem? (i := 14) rfl))⟩
theorem fpX6_62 : LkP RX6 62 5 5 .boolean false := ⟨RX5, TX5, 6, tyX5, rfl, by decide, xlay5, (xwc5 _ (List.mem_of_getElem? (i := 14) rfl)), tyX5_ok, nmX5, rfl, by decide +kernel, rfl⟩
theorem fgX3_79 : LkG RX3 79 5 5 := ⟨RX5, TX5, 6, rfl, by decide, xlay5, (xwc5 _ (List.mem_of_getElem? (i := 15) rfl))⟩
theorem fpX3_79 : LkP RX3 79 5 5 .boolean false := ⟨RX5, TX5, 6, tyX5, rfl, by decide, xlay5, (xwc5 _ (List.mem_of_getElem? (i := 15) rfl)), tyX5_ok, nmX5, rfl, by decide +kernel, rfl⟩
theorem fgX0_9 : LkG RX0 9 0 0 := ⟨RX0, TX0, 10, rfl, by decide, xlay0, (xwc5 _ (List.mem_of_getElem? (i := 26) rfl))⟩
theorem fpX0_9 : LkP RX0 9 0 0 .int false := ⟨RX0, TX0, 10, tyX0, rfl, by decide, xlay0, (xwc5 _ (List.mem_of_getElem? (i := 26) rfl)), tyX0_ok, nmX0, rfl, by decide +kernel, rfl⟩
theorem fgX3_127 : LkG RX3 127 0 0 := ⟨RX0, TX0, 10, rfl, by decide, xlay0, (xwc5 _ (List.mem_of_getElem? (i := 27) rfl))⟩
theorem fpX3_127 : LkP RX3 127 0 0 .int false := ⟨RX0, TX0, 10, tyX0, rfl, by decide, xlay0, (xwc5 _ (List.mem_of_getElem? (i := 27) rfl)), tyX0_ok, nmX0, rfl, by decide +kernel, rfl⟩
theorem fgX6_189 : LkG RX6 189 0 0 := ⟨RX0, TX0, 10, rfl, by decide, xlay0, (xwc5 _ (List.mem_of_getElem? (i := 28) rfl))⟩
theorem fpX6_189 : LkP RX6 189 0 0 .int false := ⟨RX0, TX0, 10, tyX0, rfl, by decide, xlay0, (xwc5 _ (List.mem_of_getElem? (i := 28) rfl)), tyX0_ok, nmX0, rfl, by decide +kernel, rfl⟩
theorem fgX0_15 : LkG RX0 15 0 1 := ⟨RX0, TX0, 10, rfl, by decide, xlay0, (xwc5 _ (List.mem_of_getElem? (i := 29) rfl))⟩
theorem fpX0_15 : LkP RX0 15 0 1 .int false := ⟨RX0, TX0, 10, tyX0, rfl, by decide, xlay0, (xwc5 _ (List.mem_of_getElem? (i := 29) rfl)), tyX0_ok, nmX0, rfl, by decide +kernel, rfl⟩
theorem fgX3_130 : LkG RX3 130 0 1 := ⟨RX0, TX0, 10, rfl, by decide, xlay0, (xwc6 _ (List.mem_of_getElem? (i := 0) rfl))⟩
theorem fpX3_130 : LkP RX3 130 0 1 .int false := ⟨RX0, TX0, 10, tyX0, rfl, by decide, xlay0, (xwc6 _ (List.mem_of_getElem? (i := 0) rfl)), tyX0_ok, nmX0, rfl, by decide +kernel, rfl⟩
theorem fgX6_192 : LkG RX6 192 0 1 := ⟨RX0, TX0, 10, rfl, by decide, xlay0, (xwc6 _ (List.mem_of_getElem? (i := 1) rfl))⟩
theorem fpX6_192 : LkP RX6 192 0 1 .int false := ⟨RX0, TX0, 10, tyX0, rfl, by decide, xlay0, (xwc6 _ (List.mem_of_getElem? (i := 1) rfl)), tyX0_ok, nmX0, rfl, by decide +kernel, rfl⟩
theorem fgX0_18 : LkG RX0 18 0 2 := ⟨RX0, TX0, 10, rfl, by decide, xlay0, (xwc6 _ (List.mem_of_getElem? (i := 2) rfl))⟩
theorem fpX0_18 : LkP RX0 18 0 2 .int false := ⟨RX0, TX0, 10, tyX0, rfl, by decide, xlay0, (xwc6 _ (List.mem_of_getElem? (i := 2) rfl)), tyX0_ok, nmX0, rfl, by decide +kernel, rfl⟩
theorem fgX3_111 : LkG RX3 111 0 2 := ⟨RX0, TX0, 10, rfl, by decide, xlay0, (xwc6 _ (List.mem_of_getElem? (i := 3) rfl))⟩
theorem fpX3_111 : LkP RX3 111 0 2 .int false := ⟨RX0, TX0, 10, tyX0, rfl, by decide, xlay0, (xwc6 _ (List.mem_of_getElem? (i := 3) rfl)), tyX0_ok, nmX0, rfl, by decide +kernel, rfl⟩
theorem fgX6_195 : LkG RX6 195 0 2 := ⟨RX0, TX0, 10, rfl, by decide, xlay0, (xwc6 _ (List.mem_of_getElem? (i := 4) rfl))⟩
theorem fpX6_195 : LkP RX6 195 0 2 .int false := ⟨RX0, TX0, 10, tyX0, rfl, by decide, xlay0, (xwc6 _ (List.mem_of_getElem? (i := 4) rfl)), tyX0_ok, nmX0, rfl, by decide +kernel, rfl⟩
theorem fgX0_21 : LkG RX0 21 0 3 := ⟨RX0, TX0, 10, rfl, by decide, xlay0, (xwc6 _ (List.mem_of_getElem? (i := 5) rfl))⟩
theorem fpX0_21 : LkP RX0 21 0 3 .int false := ⟨RX0, TX0, 10, tyX0, rfl, by decide, xlay0, (xwc6 _ (List.mem_of_getElem? (i := 5) rfl)), tyX0_ok, nmX0, rfl, by decide +kernel, rfl⟩
theorem fgX6_186 : LkG RX6 186 0 3 := ⟨RX0, TX0, 10, rfl, by decide, xlay0, (xwc6 _ (List.mem_of_getElem? (i := 6) rfl))⟩
theorem fpX6_186 : LkP RX6 186 0 3 .int false := ⟨RX0, TX0, 10, tyX0, rfl, by decide, xlay0, (xwc6 _ (List.mem_of_getElem? (i := 6) rfl)), tyX0_ok, nmX0, rfl, by decide +kernel, rfl⟩
theorem fgX3_174 : LkG RX3 174 0 3 := ⟨RX0, TX0, 10, rfl, by decide, xlay0, (xwc6 _ (List.mem_of_getElem? (i := 7) rfl))⟩
theorem fpX3_174 : LkP RX3 174 0 3 .int false := ⟨RX0, TX0, 10, tyX0, rfl, by decide, xlay0, (xwc6 _ (List.mem_of_getElem? (i := 7) rfl)), tyX0_ok, nmX0, rfl, by decide +kernel, rfl⟩
theorem fgX0_24 : LkG RX0 24 0 4 := ⟨RX0, TX0, 10, rfl, by decide, xlay0, (xwc6 _ (List.mem_of_getElem? (i := 8) rfl))⟩
theorem fpX0_24 : LkP RX0 24 0 4 .int false := ⟨RX0, TX0, 10, tyX0, rfl, by decide, xlay0, (xwc6 _ (List.mem_of_getElem? (i := 8) rfl)), tyX0_ok, nmX0, rfl, by decide +kernel, rfl⟩
theorem fgX6_198 : LkG RX6 198 0 4 := ⟨RX0, TX0, 10, rfl, by decide, xlay0, (xwc6 _ (List.mem_of_getElem? (i := 9) rfl))⟩
theorem fpX6_198 : LkP RX6 198 0 4 .int false := ⟨RX0, TX0, 10, tyX0, rfl, by decide, xlay0, (xwc6 _ (List.mem_of_getElem? (i := 9) rfl)), tyX0_ok, nmX0, rfl, by decide +kernel, rfl⟩
theorem fgX3_159 : LkG RX3 159 0 4 := ⟨RX0, TX0, 10, rfl, by decide, xlay0, (xwc6 _ (List.mem_of_getElem? (i := 10) rfl))⟩
theorem fpX3_159 : LkP RX3 159 0 4 .int false := ⟨RX0, TX0, 10, tyX0, rfl, by decide, xlay0, (xwc6 _ (List.mem_of_getElem? (i := 10) rfl)), tyX0_ok, nmX0, rfl, by decide +kernel, rfl⟩
theorem fgX0_27 : LkG RX0 27 0 5 := ⟨RX0, TX0, 10, rfl, by decide, xlay0, (xwc6 _ (List.mem_of_getElem? (i := 11) rfl))⟩
theorem fpX0_27 : LkP RX0 27 0 5 .int false := ⟨RX0, TX0, 10, tyX0, rfl, by decide, xlay0, (xwc6 _ (List.mem_of_getElem? (i := 11) rfl)), tyX0_ok, nmX0, rfl, by decide +kernel, rfl⟩
theorem fgX6_152 : LkG RX6 152 0 5 := ⟨RX0, TX0, 10, rfl, by decide, xlay0, (xwc6 _ (List.mem_of_getElem? (i := 12) rfl))⟩
theorem fpX6_152 : LkP RX6 152 0 5 .int false := ⟨RX0, TX0, 10, tyX0, rfl, by decide, xlay0, (xwc6 _ (List.mem_of_getElem? (i := 12) rfl)), tyX0_ok, nmX0, rfl, by decide +kernel, rfl⟩
theorem fgX3_121 : LkG RX3 121 0 5 := ⟨RX0, TX0, 10, rfl, by decide, xlay0, (xwc6 _ (List.mem_of_getElem? (i := 13) rfl))⟩
theorem fpX3_121 : LkP RX3 121 0 5 .int false := ⟨RX0, TX0, 10, tyX0, rfl, by decide, xlay0, (xwc6 _ (List.mem_of_getElem? (i := 13) rfl)), tyX0_ok, nmX0, rfl, by decide +kernel, rfl⟩
theorem fgX0_30 : LkG RX0 30 0 6 := ⟨RX0, TX0, 10, rfl, by decide, xlay0, (xwc6 _ (List.mem_of_getElem? (i := 14) rfl))⟩
theorem fpX0_30 : LkP RX0 30 0 6 .int false := ⟨RX0, TX0, 10, tyX0, rfl, by decide, xlay0, (xwc6 _ (List.mem_of_getElem? (i := 14) rfl)), tyX0_ok, nmX0, rfl, by decide +kernel, rfl⟩
theorem fgX3_139 : LkG RX3 139 0 6 := ⟨RX0, TX0, 10, rfl, by decide, xlay0, (xwc6 _ (List.mem_of_getElem? (i := 15) rfl))⟩
theorem fpX3_139 : LkP RX3 139 0 6 .int false := ⟨RX0, TX0, 10, tyX0, rfl, by decide, xlay0, (xwc6 _ (List.mem_of_getElem? (i := 15) rfl)), tyX0_ok, nmX0, rfl, by decide +kernel, rfl⟩
theorem fgX6_201 : LkG RX6 201 0 6 := ⟨RX0, TX0, 10, rfl, by decide, xlay0, (xwc6 _ (List.mem_of_getElem? (i := 16) rfl))⟩
theorem fpX6_201 : LkP RX6 201 0 6 .int false := ⟨RX0, TX0, 10, tyX0, rfl, by decide, xlay0, (xwc6 _ (List.mem_of_getElem? (i := 16) rfl)), tyX0_ok, nmX0, rfl, by decide +kernel, rfl⟩
theorem fgX0_33 : LkG RX0 33 0 7 := ⟨RX0, TX0, 10, rfl, by decide, xlay0, (xwc6 _ (List.mem_of_getElem? (i := 17) rfl))⟩
theorem fpX0_33 : LkP RX0 33 0 7 .int false := ⟨RX0, TX0, 10, tyX0, rfl, by decide, xlay0, (xwc6 _ (List.mem_of_getElem? (i := 17) rfl)), tyX0_ok, nmX0, rfl, by decide +kernel, rfl⟩
theorem fgX3_124 : LkG RX3 124 0 7 := ⟨RX0, TX0, 10, rfl, by decide, xlay0, (xwc6 _ (List.mem_of_getElem? (i := 18) rfl))⟩
theorem fpX3_124 : LkP RX3 124 0 7 .int false := ⟨RX0, TX0, 10, tyX0, rfl, by decide, xlay0, (xwc6 _ (List.mem_of_getElem? (i := 18) rfl)), tyX0_ok, nmX0, rfl, by decide +kernel, rfl⟩
theorem fgX0_36 : LkG RX0 36 0 8 := ⟨RX0, TX0, 10, rfl, by decide, xlay0, (xwc6 _ (List.mem_of_getElem? (i := 19) rfl))⟩
theorem fpX0_36 : LkP RX0 36 0 8 .int false := ⟨RX0, TX0, 10, tyX0, rfl, by decide, xlay0, (xwc6 _ (List.mem_of_getElem? (i := 19) rfl)), tyX0_ok, nmX0, rfl, by decide +kernel, rfl⟩
theorem fgX3_114 : LkG RX3 114 0 8 := ⟨RX0, TX0, 10, rfl, by decide, xlay0, (xwc6 _ (List.mem_of_getElem? (i := 20) rfl))⟩
theorem fpX3_114 : LkP RX3 114 0 8 .int false := ⟨RX0, TX0, 10, tyX0, rfl, by decide, xlay0, (xwc6 _ (List.mem_of_getElem? (i := 20) rfl)), tyX0_ok, nmX0, rfl, by decide +kernel, rfl⟩
theorem fgX6_204 : LkG RX6 204 0 8 := ⟨RX0, TX0, 10, rfl, by decide, xlay0, (xwc6 _ (List.mem_of_getElem? (i := 21) rfl))⟩
theorem fpX6_204 : LkP RX6 204 0 8 .int false := ⟨RX0, TX0, 10, tyX0, rfl, by decide, xlay0, (xwc6 _ (List.mem_of_getElem? (i := 21) rfl)), tyX0_ok, nmX0, rfl, by decide +kernel, rfl⟩
theorem fgX0_39 : LkG RX0 39 0 9 := ⟨RX0, TX0, 10, rfl, by decide, xlay0, (xwc6 _ (List.mem_of_getElem? (i := 22) rfl))⟩
theorem fpX0_39 : LkP RX0 39 0 9 .float false := ⟨RX0, TX0, 10, tyX0, rfl, by decide, xlay0, (xwc6 _ (List.mem_of_getElem? (i := 22) rfl)), tyX0_ok, nmX0, rfl, by decide +kernel, rfl⟩
theorem fgX6_210 : LkG RX6 210 0 9 := ⟨RX0, TX0, 10, rfl, by decide, xlay0, (xwc6 _ (List.mem_of_getElem? (i := 23) rfl))⟩
theorem fpX6_210 : LkP RX6 210 0 9 .float false := ⟨RX0, TX0, 10, tyX0, rfl, by decide, xlay0, (xwc6 _ (List.mem_of_getElem? (i := 23) rfl)), tyX0_ok, nmX0, rfl, by decide +kernel, rfl⟩
theorem fgX3_201 : LkG RX3 201 0 9 := ⟨RX0, TX0, 10, rfl, by decide, xlay0, (xwc6 _ (List.mem_of_getElem? (i := 24) rfl))⟩
theorem fpX3_201 : LkP RX3 201 0 9 .float false := ⟨RX0, TX0, 10, tyX0, rfl, by decide, xlay0, (xwc6 _ (List.mem_of_getElem? (i := 24) rfl)), tyX0_ok, nmX0, rfl, by decide +kernel, rfl⟩
theorem fgX3_44 : LkG RX3 44 3 0 := ⟨RX3, TX3, 12, rfl, by decide, xlay3, (xwc7 _ (List.mem_of_getElem? (i := 5) rfl))⟩
theorem fpX3_44 : LkP RX3 44 3 0 (.object "BatchExecutive$Book") true := ⟨RX3, TX3, 12, tyX3, rfl, by decide, xlay3, (xwc7 _ (List.mem_of_getElem? (i := 5) rfl)), tyX3_ok, nmX3, rfl, by decide +kernel, rfl⟩
theorem fgX3_11 : LkG RX3 11 3 1 := ⟨RX3, TX3, 12, rfl, by decide, xlay3, (xwc7 _ (List.mem_of_getElem? (i := 6) rfl))⟩
theorem fpX3_11 : LkP RX3 11 3 1 (.array (.object "BatchExecutive$Unit")) true := ⟨RX3, TX3, 12, tyX3, rfl, by decide, xlay3, (xwc7 _ (List.mem_of_getElem? (i := 6) rfl)), tyX3_ok, nmX3, rfl, by decide +kernel, rfl⟩
theorem fgX6_58 : LkG RX6 58 3 1 := ⟨RX3, TX3, 12, rfl, by decide, xlay3, (xwc7 _ (List.mem_of_getElem? (i := 7) rfl))⟩
theorem fpX6_58 : LkP RX6 58 3 1 (.array (.object "BatchExecutive$Unit")) true := ⟨RX3, TX3, 12, tyX3, rfl, by decide, xlay3, (xwc7 _ (List.mem_of_getElem? (i := 7) rfl)), tyX3_ok, nmX3, rfl, by decide +kernel, rfl⟩
theorem fgX3_19 : LkG RX3 19 3 2 := ⟨RX3, TX3, 12, rfl, by decide, xlay3, (xwc7 _ (List.mem_of_getElem? (i := 8) rfl))⟩
theorem fpX3_19 : LkP RX3 19 3 2 (.array (.object "BatchExecutive$Batch")) true := ⟨RX3, TX3, 12, tyX3, rfl, by decide, xlay3, (xwc7 _ (List.mem_of_getElem? (i := 8) rfl)), tyX3_ok, nmX3, rfl, by decide +kernel, rfl⟩
theorem fgX6_148 : LkG RX6 148 3 2 := ⟨RX3, TX3, 12, rfl, by decide, xlay3, (xwc7 _ (List.mem_of_getElem? (i := 9) rfl))⟩
theorem fpX6_148 : LkP RX6 148 3 2 (.array (.object "BatchExecutive$Batch")) true := ⟨RX3, TX3, 12, tyX3, rfl, by decide, xlay3, (xwc7 _ (List.mem_of_getElem? (i := 9) rfl)), tyX3_ok, nmX3, rfl, by decide +kernel, rfl⟩
theorem fgX3_23 : LkG RX3 23 3 3 := ⟨RX3, TX3, 12, rfl, by decide, xlay3, (xwc7 _ (List.mem_of_getElem? (i := 10) rfl))⟩
theorem fpX3_23 : LkP RX3 23 3 3 (.array .int) true := ⟨RX3, TX3, 12, tyX3, rfl, by decide, xlay3, (xwc7 _ (List.mem_of_getElem? (i := 10) rfl)), tyX3_ok, nmX3, rfl, by decide +kernel, rfl⟩
theorem fgX6_101 : LkG RX6 101 3 3 := ⟨RX3, TX3, 12, rfl, by decide, xlay3, (xwc7 _ (List.mem_of_getElem? (i := 11) rfl))⟩
theorem fpX6_101 : LkP RX6 101 3 3 (.array .int) true := ⟨RX3, TX3, 12, tyX3, rfl, by decide, xlay3, (xwc7 _ (List.mem_of_getElem? (i := 11) rfl)), tyX3_ok, nmX3, rfl, by decide +kernel, rfl⟩
theorem fgX3_27 : LkG RX3 27 3 4 := ⟨RX3, TX3, 12, rfl, by decide, xlay3, (xwc7 _ (List.mem_of_getElem? (i := 12) rfl))⟩
theorem fpX3_27 : LkP RX3 27 3 4 (.array .int) true := ⟨RX3, TX3, 12, tyX3, rfl, by decide, xlay3, (xwc7 _ (List.mem_of_getElem? (i := 12) rfl)), tyX3_ok, nmX3, rfl, by decide +kernel, rfl⟩
theorem fgX6_115 : LkG RX6 115 3 4 := ⟨RX3, TX3, 12, rfl, by decide, xlay3, (xwc7 _ (List.mem_of_getElem? (i := 13) rfl))⟩
theorem fpX6_115 : LkP RX6 115 3 4 (.array .int) true := ⟨RX3, TX3, 12, tyX3, rfl, by decide, xlay3, (xwc7 _ (List.mem_of_getElem? (i := 13) rfl)), tyX3_ok, nmX3, rfl, by decide +kernel, rfl⟩
theorem fgX3_33 : LkG RX3 33 3 5 := ⟨RX3, TX3, 12, rfl, by decide, xlay3, (xwc7 _ (List.mem_of_getElem? (i := 14) rfl))⟩
theorem fpX3_33 : LkP RX3 33 3 5 (.object "BatchExecutive$Journal") true := ⟨RX3, TX3, 12, tyX3, rfl, by decide, xlay3, (xwc7 _ (List.mem_of_getElem? (i := 14) rfl)), tyX3_ok, nmX3, rfl, by decide +kernel, rfl⟩
theorem fgX6_244 : LkG RX6 244 3 5 := ⟨RX3, TX3, 12, rfl, by decide, xlay3, (xwc7 _ (List.mem_of_getElem? (i := 15) rfl))⟩
theorem fpX6_244 : LkP RX6 244 3 5 (.object "BatchExecutive$Journal") true := ⟨RX3, TX3, 12, tyX3, rfl, by decide, xlay3, (xwc7 _ (List.mem_of_getElem? (i := 15) rfl)), tyX3_ok, nmX3, rfl, by decide +kernel, rfl⟩
theorem fgX3_37 : LkG RX3 37 3 6 := ⟨RX3, TX3, 12, rfl, by decide, xlay3, (xwc7 _ (List.mem_of_getElem? (i := 16) rfl))⟩
theorem fpX3_37 : LkP RX3 37 3 6 (.array .int) true := ⟨RX3, TX3, 12, tyX3, rfl, by decide, xlay3, (xwc7 _ (List.mem_of_getElem? (i := 16) rfl)), tyX3_ok, nmX3, rfl, by decide +kernel, rfl⟩
theorem fgX6_227 : LkG RX6 227 3 6 := ⟨RX3, TX3, 12, rfl, by decide, xlay3, (xwc7 _ (List.mem_of_getElem? (i := 17) rfl))⟩
theorem fpX6_227 : LkP RX6 227 3 6 (.array .int) true := ⟨RX3, TX3, 12, tyX3, rfl, by decide, xlay3, (xwc7 _ (List.mem_of_getElem? (i := 17) rfl)), tyX3_ok, nmX3, rfl, by decide +kernel, rfl⟩
theorem fgX3_50 : LkG RX3 50 3 7 := ⟨RX3, TX3, 12, rfl, by decide, xlay3, (xwc7 _ (List.mem_of_getElem? (i := 18) rfl))⟩
theorem fpX3_50 : LkP RX3 50 3 7 .int false := ⟨RX3, TX3, 12, tyX3, rfl, by decide, xlay3, (xwc7 _ (List.mem_of_getElem? (i := 18) rfl)), tyX3_ok, nmX3, rfl, by decide +kernel, rfl⟩
theorem fgX6_43 : LkG RX6 43 3 7 := ⟨RX3, TX3, 12, rfl, by decide, xlay3, (xwc7 _ (List.mem_of_getElem? (i := 19) rfl))⟩
theorem fpX6_43 : LkP RX6 43 3 7 .int false := ⟨RX3, TX3, 12, tyX3, rfl, by decide, xlay3, (xwc7 _ (List.mem_of_getElem? (i := 19) rfl)), tyX3_ok, nmX3, rfl, by decide +kernel, rfl⟩
theorem fgX3_57 : LkG RX3 57 3 8 := ⟨RX3, TX3, 12, rfl, by decide, xlay3, (xwc7 _ (List.mem_of_getElem? (i := 20) rfl))⟩
theorem fpX3_57 : LkP RX3 57 3 8 .int false := ⟨RX3, TX3, 12, tyX3, rfl, by decide, xlay3, (xwc7 _ (List.mem_of_getElem? (i := 20) rfl)), tyX3_ok, nmX3, rfl, by decide +kernel, rfl⟩
theorem fgX6_141 : LkG RX6 141 3 8 := ⟨RX3, TX3, 12, rfl, by decide, xlay3, (xwc7 _ (List.mem_of_getElem? (i := 21) rfl))⟩
theorem fpX6_141 : LkP RX6 141 3 8 .int false := ⟨RX3, TX3, 12, tyX3, rfl, by decide, xlay3, (xwc7 _ (List.mem_of_getElem? (i := 21) rfl)), tyX3_ok, nmX3, rfl, by decide +kernel, rfl⟩
theorem fgX6_224 : LkG RX6 224 3 9 := ⟨RX3, TX3, 12, rfl, by decide, xlay3, (xwc7 _ (List.mem_of_getElem? (i := 22) rfl))⟩
theorem fpX6_224 : LkP RX6 224 3 9 .int false := ⟨RX3, TX3, 12, tyX3, rfl, by decide, xlay3, (xwc7 _ (List.mem_of_getElem? (i := 22) rfl)), tyX3_ok, nmX3, rfl, by decide +kernel, rfl⟩
theorem fgX3_168 : LkG RX3 168 3 9 := ⟨RX3, TX3, 12, rfl, by decide, xlay3, (xwc7 _ (List.mem_of_getElem? (i := 23) rfl))⟩
theorem fpX3_168 : LkP RX3 168 3 9 .int false := ⟨RX3, TX3, 12, tyX3, rfl, by decide, xlay3, (xwc7 _ (List.mem_of_getElem? (i := 23) rfl)), tyX3_ok, nmX3, rfl, by decide +kernel, rfl⟩
theorem fgX3_72 : LkG RX3 72 3 10 := ⟨RX3, TX3, 12, rfl, by decide, xlay3, (xwc7 _ (List.mem_of_getElem? (i := 24) rfl))⟩
theorem fpX3_72 : LkP RX3 72 3 10 .int false := ⟨RX3, TX3, 12, tyX3, rfl, by decide, xlay3, (xwc7 _ (List.mem_of_getElem? (i := 24) rfl)), tyX3_ok, nmX3, rfl, by decide +kernel, rfl⟩
theorem fgX6_230 : LkG RX6 230 3 10 := ⟨RX3, TX3, 12, rfl, by decide, xlay3, (xwc7 _ (List.mem_of_getElem? (i := 25) rfl))⟩
theorem fpX6_230 : LkP RX6 230 3 10 .int false := ⟨RX3, TX3, 12, tyX3, rfl, by decide, xlay3, (xwc7 _ (List.mem_of_getElem? (i := 25) rfl)), tyX3_ok, nmX3, rfl, by decide +kernel, rfl⟩
theorem fgX3_40 : LkG RX3 40 3 11 := ⟨RX3, TX3, 12, rfl, by decide, xlay3, (xwc7 _ (List.mem_of_getElem? (i := 26) rfl))⟩
theorem fpX3_40 : LkP RX3 40 3 11 .int false := ⟨RX3, TX3, 12, tyX3, rfl, by decide, xlay3, (xwc7 _ (List.mem_of_getElem? (i := 26) rfl)), tyX3_ok, nmX3, rfl, by decide +kernel, rfl⟩
theorem fgX6_105 : LkG RX6 105 3 11 := ⟨RX3, TX3, 12, rfl, by decide, xlay3, (xwc7 _ (List.mem_of_getElem? (i := 27) rfl))⟩
theorem fpX6_105 : LkP RX6 105 3 11 .int false := ⟨RX3, TX3, 12, tyX3, rfl, by decide, xlay3, (xwc7 _ (List.mem_of_getElem? (i := 27) rfl)), tyX3_ok, nmX3, rfl, by decide +kernel, rfl⟩
theorem fgX6_10 : LkG RX6 10 6 0 := ⟨RX6, TX6, 6, rfl, by decide, xlay6, (xwc8 _ (List.mem_of_getElem? (i := 10) rfl))⟩
theorem fpX6_10 : LkP RX6 10 6 0 (.object "BatchExecutive$Book") true := ⟨RX6, TX6, 6, tyX6, rfl, by decide, xlay6, (xwc8 _ (List.mem_of_getElem? (i := 10) rfl)), tyX6_ok, nmX6, rfl, by decide +kernel, rfl⟩
theorem fgX6_19 : LkG RX6 19 6 1 := ⟨RX6, TX6, 6, rfl, by decide, xlay6, (xwc8 _ (List.mem_of_getElem? (i := 11) rfl))⟩
theorem fpX6_19 : LkP RX6 19 6 1 (.object "BatchExecutive$Text") true := ⟨RX6, TX6, 6, tyX6, rfl, by decide, xlay6, (xwc8 _ (List.mem_of_getElem? (i := 11) rfl)), tyX6_ok, nmX6, rfl, by decide +kernel, rfl⟩
theorem fgX6_28 : LkG RX6 28 6 2 := ⟨RX6, TX6, 6, rfl, by decide, xlay6, (xwc8 _ (List.mem_of_getElem? (i := 12) rfl))⟩
theorem fpX6_28 : LkP RX6 28 6 2 (.object "BatchExecutive$State") true := ⟨RX6, TX6, 6, tyX6, rfl, by decide, xlay6, (xwc8 _ (List.mem_of_getElem? (i := 12) rfl)), tyX6_ok, nmX6, rfl, by decide +kernel, rfl⟩
theorem fgX6_32 : LkG RX6 32 6 3 := ⟨RX6, TX6, 6, rfl, by decide, xlay6, (xwc8 _ (List.mem_of_getElem? (i := 13) rfl))⟩
theorem fpX6_32 : LkP RX6 32 6 3 (.object "BatchExecutive$State") true := ⟨RX6, TX6, 6, tyX6, rfl, by decide, xlay6, (xwc8 _ (List.mem_of_getElem? (i := 13) rfl)), tyX6_ok, nmX6, rfl, by decide +kernel, rfl⟩
theorem fgX6_35 : LkG RX6 35 6 4 := ⟨RX6, TX6, 6, rfl, by decide, xlay6, (xwc8 _ (List.mem_of_getElem? (i := 14) rfl))⟩
theorem fpX6_35 : LkP RX6 35 6 4 (.array (.object "BatchExecutive$State")) true := ⟨RX6, TX6, 6, tyX6, rfl, by decide, xlay6, (xwc8 _ (List.mem_of_getElem? (i := 14) rfl)), tyX6_ok, nmX6, rfl, by decide +kernel, rfl⟩
theorem fgX6_253 : LkG RX6 253 6 5 := ⟨RX6, TX6, 6, rfl, by decide, xlay6, (xwc8 _ (List.mem_of_getElem? (i := 15) rfl))⟩
theorem fpX6_253 : LkP RX6 253 6 5 .int false := ⟨RX6, TX6, 6, tyX6, rfl, by decide, xlay6, (xwc8 _ (List.mem_of_getElem? (i := 15) rfl)), tyX6_ok, nmX6, rfl, by decide +kernel, rfl⟩
theorem fgX7_7 : LkG RX7 7 7 0 := ⟨RX7, TX7, 11, rfl, by decide, xlay7, (xwc20 _ (List.mem_of_getElem? (i := 25) rfl))⟩
theorem fpX7_7 : LkP RX7 7 7 0 (.array .int) true := ⟨RX7, TX7, 11, tyX7, rfl, by decide, xlay7, (xwc20 _ (List.mem_of_getElem? (i := 25) rfl)), tyX7_ok, nmX7, rfl, by decide +kernel, rfl⟩
theorem fgX7_13 : LkG RX7 13 7 1 := ⟨RX7, TX7, 11, rfl, by decide, xlay7, (xwc20 _ (List.mem_of_getElem? (i := 26) rfl))⟩
theorem fpX7_13 : LkP RX7 13 7 1 (.array .int) true := ⟨RX7, TX7, 11, tyX7, rfl, by decide, xlay7, (xwc20 _ (List.mem_of_getElem? (i := 26) rfl)), tyX7_ok, nmX7, rfl, by decide +kernel, rfl⟩
theorem fgX7_16 : LkG RX7 16 7 2 := ⟨RX7, TX7, 11, rfl, by decide, xlay7, (xwc20 _ (List.mem_of_getElem? (i := 27) rfl))⟩
theorem fpX7_16 : LkP RX7 16 7 2 (.array .int) true := ⟨RX7, TX7, 11, tyX7, rfl, by decide, xlay7, (xwc20 _ (List.mem_of_getElem? (i := 27) rfl)), tyX7_ok, nmX7, rfl, by decide +kernel, rfl⟩
theorem fgX7_28 : LkG RX7 28 7 3 := ⟨RX7, TX7, 11, rfl, by decide, xlay7, (xwc20 _ (List.mem_of_getElem? (i := 28) rfl))⟩
theorem fpX7_28 : LkP RX7 28 7 3 .int false := ⟨RX7, TX7, 11, tyX7, rfl, by decide, xlay7, (xwc20 _ (List.mem_of_getElem? (i := 28) rfl)), tyX7_ok, nmX7, rfl, by decide +kernel, rfl⟩
theorem fgX7_19 : LkG RX7 19 7 4 := ⟨RX7, TX7, 11, rfl, by decide, xlay7, (xwc20 _ (List.mem_of_getElem? (i := 29) rfl))⟩
theorem fpX7_19 : LkP RX7 19 7 4 (.array .int) true := ⟨RX7, TX7, 11, tyX7, rfl, by decide, xlay7, (xwc20 _ (List.mem_of_getElem? (i := 29) rfl)), tyX7_ok, nmX7, rfl, by decide +kernel, rfl⟩
theorem fgX7_95 : LkG RX7 95 7 5 := ⟨RX7, TX7, 11, rfl, by decide, xlay7, (xwc21 _ (List.mem_of_getElem? (i := 0) rfl))⟩
theorem fpX7_95 : LkP RX7 95 7 5 .int false := ⟨RX7, TX7, 11, tyX7, rfl, by decide, xlay7, (xwc21 _ (List.mem_of_getElem? (i := 0) rfl)), tyX7_ok, nmX7, rfl, by decide +kernel, rfl⟩
theorem fgX7_92 : LkG RX7 92 7 6 := ⟨RX7, TX7, 11, rfl, by decide, xlay7, (xwc21 _ (List.mem_of_getElem? (i := 1) rfl))⟩
theorem fpX7_92 : LkP RX7 92 7 6 .int false := ⟨RX7, TX7, 11, tyX7, rfl, by decide, xlay7, (xwc21 _ (List.mem_of_getElem? (i := 1) rfl)), tyX7_ok, nmX7, rfl, by decide +kernel, rfl⟩
theorem fgX7_98 : LkG RX7 98 7 7 := ⟨RX7, TX7, 11, rfl, by decide, xlay7, (xwc21 _ (List.mem_of_getElem? (i := 2) rfl))⟩
theorem fpX7_98 : LkP RX7 98 7 7 .int false := ⟨RX7, TX7, 11, tyX7, rfl, by decide, xlay7, (xwc21 _ (List.mem_of_getElem? (i := 2) rfl)), tyX7_ok, nmX7, rfl, by decide +kernel, rfl⟩
theorem fgX7_101 : LkG RX7 101 7 8 := ⟨RX7, TX7, 11, rfl, by decide, xlay7, (xwc21 _ (List.mem_of_getElem? (i := 3) rfl))⟩
theorem fpX7_101 : LkP RX7 101 7 8 .int false := ⟨RX7, TX7, 11, tyX7, rfl, by decide, xlay7, (xwc21 _ (List.mem_of_getElem? (i := 3) rfl)), tyX7_ok, nmX7, rfl, by decide +kernel, rfl⟩
theorem fgX7_22 : LkG RX7 22 7 9 := ⟨RX7, TX7, 11, rfl, by decide, xlay7, (xwc21 _ (List.mem_of_getElem? (i := 4) rfl))⟩
theorem fpX7_22 : LkP RX7 22 7 9 (.array .int) true := ⟨RX7, TX7, 11, tyX7, rfl, by decide, xlay7, (xwc21 _ (List.mem_of_getElem? (i := 4) rfl)), tyX7_ok, nmX7, rfl, by decide +kernel, rfl⟩
theorem fgX7_25 : LkG RX7 25 7 10 := ⟨RX7, TX7, 11, rfl, by decide, xlay7, (xwc21 _ (List.mem_of_getElem? (i := 5) rfl))⟩
theorem fpX7_25 : LkP RX7 25 7 10 (.array .int) true := ⟨RX7, TX7, 11, tyX7, rfl, by decide, xlay7, (xwc21 _ (List.mem_of_getElem? (i := 5) rfl)), tyX7_ok, nmX7, rfl, by decide +kernel, rfl⟩
theorem miX6_init : LkI yX6_init cX6_init 2 0 := ⟨(xwc2 _ (List.mem_of_getElem? (i := 16) rfl)), (xwc2 _ (List.mem_of_getElem? (i := 3) rfl)), (xwc2 _ (List.mem_of_getElem? (i := 17) rfl)), ⟨by decide +kernel, by decide +kernel, by decide +kernel⟩, rfl⟩
theorem mlL_9 : Cond.methodLink RL 9 yX6_init ∈ xw := (xwc2 _ (List.mem_of_getElem? (i := 15) rfl))
theorem moX6_1 : Cond.methodLink RX6 1 objectInit ∈ xw := (xwc2 _ (List.mem_of_getElem? (i := 18) rfl))
theorem miX1_init : LkI yX1_init cX1_init 1 0 := ⟨(xwc2 _ (List.mem_of_getElem? (i := 23) rfl)), (xwc2 _ (List.mem_of_getElem? (i := 4) rfl)), (xwc2 _ (List.mem_of_getElem? (i := 24) rfl)), ⟨by decide +kernel, by decide +kernel, by decide +kernel⟩, rfl⟩
theorem moX1_3 : Cond.methodLink RX1 3 objectInit ∈ xw := (xwc2 _ (List.mem_of_getElem? (i := 25) rfl))
theorem miX4_init : LkI yX4_init cX4_init 1 0 := ⟨(xwc3 _ (List.mem_of_getElem? (i := 6) rfl)), (xwc2 _ (List.mem_of_getElem? (i := 5) rfl)), (xwc3 _ (List.mem_of_getElem? (i := 7) rfl)), ⟨by decide +kernel, by decide +kernel, by decide +kernel⟩, rfl⟩
theorem moX4_3 : Cond.methodLink RX4 3 objectInit ∈ xw := (xwc3 _ (List.mem_of_getElem? (i := 8) rfl))
theorem miX3_init : LkI yX3_init cX3_init 3 1 := ⟨(xwc4 _ (List.mem_of_getElem? (i := 3) rfl)), (xwc2 _ (List.mem_of_getElem? (i := 6) rfl)), (xwc4 _ (List.mem_of_getElem? (i := 4) rfl)), ⟨by decide +kernel, by decide +kernel, by decide +kernel⟩, rfl⟩
theorem mlX6_25 : Cond.methodLink RX6 25 yX3_init ∈ xw := (xwc4 _ (List.mem_of_getElem? (i := 2) rfl))
theorem moX3_3 : Cond.methodLink RX3 3 objectInit ∈ xw := (xwc4 _ (List.mem_of_getElem? (i := 5) rfl))
theorem miX2_init : LkI yX2_init cX2_init 1 0 := ⟨(xwc4 _ (List.mem_of_getElem? (i := 10) rfl)), (xwc2 _ (List.mem_of_getElem? (i := 7) rfl)), (xwc4 _ (List.mem_of_getElem? (i := 11) rfl)), ⟨by decide +kernel, by decide +kernel, by decide +kernel⟩, rfl⟩
theorem moX2_3 : Cond.methodLink RX2 3 objectInit ∈ xw := (xwc4 _ (List.mem_of_getElem? (i := 12) rfl))
theorem miX5_init : LkI yX5_init cX5_init 1 0 := ⟨(xwc4 _ (List.mem_of_getElem? (i := 25) rfl)), (xwc2 _ (List.mem_of_getElem? (i := 8) rfl)), (xwc4 _ (List.mem_of_getElem? (i := 26) rfl)), ⟨by decide +kernel, by decide +kernel, by decide +kernel⟩, rfl⟩
theorem moX5_3 : Cond.methodLink RX5 3 objectInit ∈ xw := (xwc4 _ (List.mem_of_getElem? (i := 27) rfl))
theorem miX0_init : LkI yX0_init cX0_init 1 0 := ⟨(xwc5 _ (List.mem_of_getElem? (i := 23) rfl)), (xwc2 _ (List.mem_of_getElem? (i := 9) rfl)), (xwc5 _ (List.mem_of_getElem? (i := 24) rfl)), ⟨by decide +kernel, by decide +kernel, by decide +kernel⟩, rfl⟩
theorem moX0_3 : Cond.methodLink RX0 3 objectInit ∈ xw := (xwc5 _ (List.mem_of_getElem? (i := 25) rfl))
theorem mvL_13 : LkV RL 13 yX6_unit cX6_unit 3 (some .int) 6 2 := ⟨(xwc8 _ (List.mem_of_getElem? (i := 22) rfl)), (xwc8 _ (List.mem_of_getElem? (i := 23) rfl)), (xwc8 _ (List.mem_of_getElem? (i := 24) rfl)), (xwc2 _ (List.mem_of_getElem? (i := 3) rfl)), (xwc8 _ (List.mem_of_getElem? (i := 25) rfl)), ⟨by decide +kernel, by decide +kernel, by decide +kernel⟩, _, _, rfl⟩
theorem msX6_39 : LkS RX6 39 yX6_isWithin cX6_isWithin 3 (some .boolean) 3 := ⟨(xwc8 _ (List.mem_of_getElem? (i := 26) rfl)), (xwc8 _ (List.mem_of_getElem? (i := 27) rfl)), (xwc2 _ (List.mem_of_getElem? (i := 3) rfl)), (xwc8 _ (List.mem_of_getElem? (i := 28) rfl)), ⟨by decide +kernel, by decide +kernel, by decide +kernel⟩⟩
theorem mvX6_47 : LkV RX6 47 yX6_record cX6_record 3 none 6 0 := ⟨(xwc8 _ (List.mem_of_getElem? (i := 29) rfl)), (xwc9 _ (List.mem_of_getElem? (i := 0) rfl)), (xwc0 _ (List.mem_of_getElem? (i := 0) rfl)), (xwc2 _ (List.mem_of_getElem? (i := 3) rfl)), (xwc9 _ (List.mem_of_getElem? (i := 1) rfl)), ⟨by decide +kernel, by decide +kernel, by decide +kernel⟩, _, _, rfl⟩
theorem mvX6_237 : LkV RX6 237 yX3_copyFrom cX3_copyFrom 3 none 3 1 := ⟨(xwc9 _ (List.mem_of_getElem? (i := 2) rfl)), (xwc9 _ (List.mem_of_getElem? (i := 3) rfl)), (xwc9 _ (List.mem_of_getElem? (i := 4) rfl)), (xwc2 _ (List.mem_of_getElem? (i := 6) rfl)), (xwc9 _ (List.mem_of_getElem? (i := 5) rfl)), ⟨by decide +kernel, by decide +kernel, by decide +kernel⟩, _, _, rfl⟩
theorem mvX3_53 : LkV RX3 53 yX5_copyFrom cX5_copyFrom 2 none 5 1 := ⟨(xwc9 _ (List.mem_of_getElem? (i := 6) rfl)), (xwc9 _ (List.mem_of_getElem? (i := 7) rfl)), (xwc9 _ (List.mem_of_getElem? (i := 8) rfl)), (xwc2 _ (List.mem_of_getElem? (i := 8) rfl)), (xwc9 _ (List.mem_of_getElem? (i := 9) rfl)), ⟨by decide +kernel, by decide +kernel, by decide +kernel⟩, _, _, rfl⟩
theorem mvX3_60 : LkV RX3 60 yX0_copyFrom cX0_copyFrom 2 none 0 1 := ⟨(xwc9 _ (List.mem_of_getElem? (i := 10) rfl)), (xwc9 _ (List.mem_of_getElem? (i := 11) rfl)), (xwc9 _ (List.mem_of_getElem? (i := 12) rfl)), (xwc2 _ (List.mem_of_getElem? (i := 9) rfl)), (xwc9 _ (List.mem_of_getElem? (i := 13) rfl)), ⟨by decide +kernel, by decide +kernel, by decide +kernel⟩, _, _, rfl⟩
theorem mvX3_69 : LkV RX3 69 yX2_copyFrom cX2_copyFrom 2 none 2 1 := ⟨(xwc9 _ (List.mem_of_getElem? (i := 17) rfl)), (xwc9 _ (List.mem_of_getElem? (i := 18) rfl)), (xwc9 _ (List.mem_of_getElem? (i := 19) rfl)), (xwc2 _ (List.mem_of_getElem? (i := 7) rfl)), (xwc9 _ (List.mem_of_getElem? (i := 20) rfl)), ⟨by decide +kernel, by decide +kernel, by decide +kernel⟩, _, _, rfl⟩
theorem mvX6_50 : LkV RX6 50 yX3_addUnit cX3_addUnit 4 (some .int) 3 2 := ⟨(xwc9 _ (List.mem_of_getElem? (i := 22) rfl)), (xwc9 _ (List.mem_of_getElem? (i := 23) rfl)), (xwc9 _ (List.mem_of_getElem? (i := 24) rfl)), (xwc2 _ (List.mem_of_getElem? (i := 6) rfl)), (xwc9 _ (List.mem_of_getElem? (i := 25) rfl)), ⟨by decide +kernel, by decide +kernel, by decide +kernel⟩, _, _, rfl⟩
theorem mvX3_75 : LkV RX3 75 yX5_reset cX5_reset 3 none 5 2 := ⟨(xwc9 _ (List.mem_of_getElem? (i := 26) rfl)), (xwc9 _ (List.mem_of_getElem? (i := 27) rfl)), (xwc9 _ (List.mem_of_getElem? (i := 28) rfl)), (xwc2 _ (List.mem_of_getElem? (i := 8) rfl)), (xwc9 _ (List.mem_of_getElem? (i := 29) rfl)), ⟨by decide +kernel, by decide +kernel, by decide +kernel⟩, _, _, rfl⟩
theorem mvL_18 : LkV RL 18 yX6_fail cX6_fail 2 (some .int) 6 1 := ⟨(xwc10 _ (List.mem_of_getElem? (i := 0) rfl)), (xwc10 _ (List.mem_of_getElem? (i := 1) rfl)), (xwc10 _ (List.mem_of_getElem? (i := 2) rfl)), (xwc2 _ (List.mem_of_getElem? (i := 3) rfl)), (xwc10 _ (List.mem_of_getElem? (i := 3) rfl)), ⟨by decide +kernel, by decide +kernel, by decide +kernel⟩, _, _, rfl⟩
theorem mvX6_54 : LkV RX6 54 yX6_isUnit cX6_isUnit 2 (some .boolean) 6 1 := ⟨(xwc10 _ (List.mem_of_getElem? (i := 4) rfl)), (xwc10 _ (List.mem_of_getElem? (i := 5) rfl)), (xwc0 _ (List.mem_of_getElem? (i := 1) rfl)), (xwc2 _ (List.mem_of_getElem? (i := 3) rfl)), (xwc10 _ (List.mem_of_getElem? (i := 6) rfl)), ⟨by decide +kernel, by decide +kernel, by decide +kernel⟩, _, _, rfl⟩
theorem mvX6_68 : LkV RX6 68 yX3_breakUnit cX3_breakUnit 3 (some .int) 3 1 := ⟨(xwc10 _ (List.mem_of_getElem? (i := 7) rfl)), (xwc10 _ (List.mem_of_getElem? (i := 8) rfl)), (xwc10 _ (List.mem_of_getElem? (i := 9) rfl)), (xwc2 _ (List.mem_of_getElem? (i := 6) rfl)), (xwc10 _ (List.mem_of_getElem? (i := 10) rfl)), ⟨by decide +kernel, by decide +kernel, by decide +kernel⟩, _, _, rfl⟩
theorem mvX3_86 : LkV RX3 86 yX0_isActive cX0_isActive 1 (some .boolean) 0 0 := ⟨(xwc10 _ (List.mem_of_getElem? (i := 11) rfl)), (xwc10 _ (List.mem_of_getElem? (i := 12) rfl)), (xwc10 _ (List.mem_of_getElem? (i := 13) rfl)), (xwc2 _ (List.mem_of_getElem? (i := 9) rfl)), (xwc10 _ (List.mem_of_getElem? (i := 14) rfl)), ⟨by decide +kernel, by decide +kernel, by decide +kernel⟩, _, _, rfl⟩
theorem mvX3_90 : LkV RX3 90 yX3_holdBatch cX3_holdBatch 2 none 3 1 := ⟨(xwc10 _ (List.mem_of_getElem? (i := 15) rfl)), (xwc10 _ (List.mem_of_getElem? (i := 16) rfl)), (xwc10 _ (List.mem_of_getElem? (i := 17) rfl)), (xwc2 _ (List.mem_of_getElem? (i := 6) rfl)), (xwc10 _ (List.mem_of_getElem? (i := 18) rfl)), ⟨by decide +kernel, by decide +kernel, by decide +kernel⟩, _, _, rfl⟩
theorem mvX3_146 : LkV RX3 146 yX3_releasePieces cX3_releasePieces 3 none 3 1 := ⟨(xwc10 _ (List.mem_of_getElem? (i := 19) rfl)), (xwc10 _ (List.mem_of_getElem? (i := 20) rfl)), (xwc0 _ (List.mem_of_getElem? (i := 2) rfl)), (xwc2 _ (List.mem_of_getElem? (i := 6) rfl)), (xwc10 _ (List.mem_of_getElem? (i := 21) rfl)), ⟨by decide +kernel, by decide +kernel, by decide +kernel⟩, _, _, rfl⟩
theorem mvX3_149 : LkV RX3 149 yX2_add cX2_add 4 none 2 3 := ⟨(xwc10 _ (List.mem_of_getElem? (i := 22) rfl)), (xwc10 _ (List.mem_of_getElem? (i := 23) rfl)), (xwc10 _ (List.mem_of_getElem? (i := 24) rfl)), (xwc2 _ (List.mem_of_getElem? (i := 7) rfl)), (xwc10 _ (List.mem_of_getElem? (i := 25) rfl)), ⟨by decide +kernel, by decide +kernel, by decide +kernel⟩, _, _, rfl⟩
theorem msX6_72 : LkS RX6 72 yX6_orNotFound cX6_orNotFound 1 (some .int) 1 := ⟨(xwc10 _ (List.mem_of_getElem? (i := 26) rfl)), (xwc10 _ (List.mem_of_getElem? (i := 27) rfl)), (xwc2 _ (List.mem_of_getElem? (i := 3) rfl)), (xwc10 _ (List.mem_of_getElem? (i := 28) rfl)), ⟨by decide +kernel, by decide +kernel, by decide +kernel⟩⟩
theorem mvL_23 : LkV RL 23 yX6_repair cX6_repair 2 (some .int) 6 1 := ⟨(xwc10 _ (List.mem_of_getElem? (i := 29) rfl)), (xwc11 _ (List.mem_of_getElem? (i := 0) rfl)), (xwc11 _ (List.mem_of_getElem? (i := 1) rfl)), (xwc2 _ (List.mem_of_getElem? (i := 3) rfl)), (xwc11 _ (List.mem_of_getElem? (i := 2) rfl)), ⟨by decide +kernel, by decide +kernel, by decide +kernel⟩, _, _, rfl⟩
theorem mvX6_75 : LkV RX6 75 yX3_brokenUnits cX3_brokenUnits 3 (some .int) 3 0 := ⟨(xwc11 _ (List.mem_of_getElem? (i := 3) rfl)), (xwc11 _ (List.mem_of_getElem? (i := 4) rfl)), (xwc11 _ (List.mem_of_getElem? (i := 5) rfl)), (xwc2 _ (List.mem_of_getElem? (i := 6) rfl)), (xwc11 _ (List.mem_of_getElem? (i := 6) rfl)), ⟨by decide +kernel, by decide +kernel, by decide +kernel⟩, _, _, rfl⟩
theorem mvL_27 : LkV RL 27 yX6_unitInfo cX6_unitInfo 4 (some .int) 6 2 := ⟨(xwc11 _ (List.mem_of_getElem? (i := 7) rfl)), (xwc11 _ (List.mem_of_getElem? (i := 8) rfl)), (xwc11 _ (List.mem_of_getElem? (i := 9) rfl)), (xwc2 _ (List.mem_of_getElem? (i := 3) rfl)), (xwc11 _ (List.mem_of_getElem? (i := 10) rfl)), ⟨by decide +kernel, by decide +kernel, by decide +kernel⟩, _, _, rfl⟩
theorem msX6_88 : LkS RX6 88 yX6_oneIf cX6_oneIf 1 (some .int) 1 := ⟨(xwc11 _ (List.mem_of_getElem? (i := 11) rfl)), (xwc11 _ (List.mem_of_getElem? (i := 12) rfl)), (xwc2 _ (List.mem_of_getElem? (i := 3) rfl)), (xwc11 _ (List.mem_of_getElem? (i := 13) rfl)), ⟨by decide +kernel, by decide +kernel, by decide +kernel⟩⟩
theorem mvX6_98 : LkV RX6 98 yX5_isFreeAfter cX5_isFreeAfter 2 (some .boolean) 5 1 := ⟨(xwc11 _ (List.mem_of_getElem? (i := 14) rfl)), (xwc11 _ (List.mem_of_getElem? (i := 15) rfl)), (xwc11 _ (List.mem_of_getElem? (i := 16) rfl)), (xwc2 _ (List.mem_of_getElem? (i := 8) rfl)), (xwc11 _ (List.mem_of_getElem? (i := 17) rfl)), ⟨by decide +kernel, by decide +kernel, by decide +kernel⟩, _, _, rfl⟩
theorem mvL_31 : LkV RL 31 yX6_shared cX6_shared 2 (some .int) 6 1 := ⟨(xwc11 _ (List.mem_of_getElem? (i := 18) rfl)), (xwc11 _ (List.mem_of_getElem? (i := 19) rfl)), (xwc11 _ (List.mem_of_getElem? (i := 20) rfl)), (xwc2 _ (List.mem_of_getElem? (i := 3) rfl)), (xwc11 _ (List.mem_of_getElem? (i := 21) rfl)), ⟨by decide +kernel, by decide +kernel, by decide +kernel⟩, _, _, rfl⟩
theorem mvL_35 : LkV RL 35 yX6_setCleaning cX6_setCleaning 3 (some .int) 6 1 := ⟨(xwc11 _ (List.mem_of_getElem? (i := 22) rfl)), (xwc11 _ (List.mem_of_getElem? (i := 23) rfl)), (xwc11 _ (List.mem_of_getElem? (i := 24) rfl)), (xwc2 _ (List.mem_of_getElem? (i := 3) rfl)), (xwc11 _ (List.mem_of_getElem? (i := 25) rfl)), ⟨by decide +kernel, by decide +kernel, by decide +kernel⟩, _, _, rfl⟩
theorem mvL_39 : LkV RL 39 yX6_recipe cX6_recipe 3 (some .int) 6 1 := ⟨(xwc11 _ (List.mem_of_getElem? (i := 26) rfl)), (xwc11 _ (List.mem_of_getElem? (i := 27) rfl)), (xwc11 _ (List.mem_of_getElem? (i := 28) rfl)), (xwc2 _ (List.mem_of_getElem? (i := 3) rfl)), (xwc11 _ (List.mem_of_getElem? (i := 29) rfl)), ⟨by decide +kernel, by decide +kernel, by decide +kernel⟩, _, _, rfl⟩
theorem msX6_106 : LkS RX6 106 yX6_isRecipe cX6_isRecipe 1 (some .boolean) 1 := ⟨(xwc12 _ (List.mem_of_getElem? (i := 0) rfl)), (xwc12 _ (List.mem_of_getElem? (i := 1) rfl)), (xwc2 _ (List.mem_of_getElem? (i := 3) rfl)), (xwc12 _ (List.mem_of_getElem? (i := 2) rfl)), ⟨by decide +kernel, by decide +kernel, by decide +kernel⟩⟩
theorem mvX6_109 : LkV RX6 109 yX4_read cX4_read 2 none 4 0 := ⟨(xwc12 _ (List.mem_of_getElem? (i := 3) rfl)), (xwc12 _ (List.mem_of_getElem? (i := 4) rfl)), (xwc12 _ (List.mem_of_getElem? (i := 5) rfl)), (xwc2 _ (List.mem_of_getElem? (i := 5) rfl)), (xwc12 _ (List.mem_of_getElem? (i := 6) rfl)), ⟨by decide +kernel, by decide +kernel, by decide +kernel⟩, _, _, rfl⟩
theorem mvX4_36 : LkV RX4 36 yX4_readPhase cX4_readPhase 2 none 4 0 := ⟨(xwc12 _ (List.mem_of_getElem? (i := 7) rfl)), (xwc12 _ (List.mem_of_getElem? (i := 8) rfl)), (xwc0 _ (List.mem_of_getElem? (i := 3) rfl)), (xwc2 _ (List.mem_of_getElem? (i := 5) rfl)), (xwc12 _ (List.mem_of_getElem? (i := 9) rfl)), ⟨by decide +kernel, by decide +kernel, by decide +kernel⟩, _, _, rfl⟩
theorem mvX4_39 : LkV RX4 39 yX4_current cX4_current 1 (some .int) 4 0 := ⟨(xwc12 _ (List.mem_of_getElem? (i := 10) rfl)), (xwc12 _ (List.mem_of_getElem? (i := 11) rfl)), (xwc0 _ (List.mem_of_getElem? (i := 4) rfl)), (xwc2 _ (List.mem_of_getElem? (i := 5) rfl)), (xwc12 _ (List.mem_of_getElem? (i := 12) rfl)), ⟨by decide +kernel, by decide +kernel, by decide +kernel⟩, _, _, rfl⟩
theorem msX4_43 : LkS RX4 43 yX4_kindOf cX4_kindOf 1 (some .int) 1 := ⟨(xwc12 _ (List.mem_of_getElem? (i := 13) rfl)), (xwc12 _ (List.mem_of_getElem? (i := 14) rfl)), (xwc2 _ (List.mem_of_getElem? (i := 5) rfl)), (xwc12 _ (List.mem_of_getElem? (i := 15) rfl)), ⟨by decide +kernel, by decide +kernel, by decide +kernel⟩⟩
theorem mvX4_47 : LkV RX4 47 yX4_blameCurrent cX4_blameCurrent 1 none 4 0 := ⟨(xwc12 _ (List.mem_of_getElem? (i := 16) rfl)), (xwc12 _ (List.mem_of_getElem? (i := 17) rfl)), (xwc0 _ (List.mem_of_getElem? (i := 5) rfl)), (xwc2 _ (List.mem_of_getElem? (i := 5) rfl)), (xwc12 _ (List.mem_of_getElem? (i := 18) rfl)), ⟨by decide +kernel, by decide +kernel, by decide +kernel⟩, _, _, rfl⟩
theorem mvX4_50 : LkV RX4 50 yX4_blame cX4_blame 3 none 4 2 := ⟨(xwc12 _ (List.mem_of_getElem? (i := 19) rfl)), (xwc12 _ (List.mem_of_getElem? (i := 20) rfl)), (xwc0 _ (List.mem_of_getElem? (i := 6) rfl)), (xwc2 _ (List.mem_of_getElem? (i := 5) rfl)), (xwc12 _ (List.mem_of_getElem? (i := 21) rfl)), ⟨by decide +kernel, by decide +kernel, by decide +kernel⟩, _, _, rfl⟩
theorem mvX4_54 : LkV RX4 54 yX4_readRest cX4_readRest 2 none 4 1 := ⟨(xwc12 _ (List.mem_of_getElem? (i := 22) rfl)), (xwc12 _ (List.mem_of_getElem? (i := 23) rfl)), (xwc0 _ (List.mem_of_getElem? (i := 7) rfl)), (xwc2 _ (List.mem_of_getElem? (i := 5) rfl)), (xwc12 _ (List.mem_of_getElem? (i := 24) rfl)), ⟨by decide +kernel, by decide +kernel, by decide +kernel⟩, _, _, rfl⟩
theorem mvX4_58 : LkV RX4 58 yX4_readNumber cX4_readNumber 6 (some .int) 4 2 := ⟨(xwc12 _ (List.mem_of_getElem? (i := 25) rfl)), (xwc12 _ (List.mem_of_getElem? (i := 26) rfl)), (xwc0 _ (List.mem_of_getElem? (i := 8) rfl)), (xwc2 _ (List.mem_of_getElem? (i := 5) rfl)), (xwc12 _ (List.mem_of_getElem? (i := 27) rfl)), ⟨by decide +kernel, by decide +kernel, by decide +kernel⟩, _, _, rfl⟩
theorem msX4_73 : LkS RX4 73 yX4_isDigit cX4_isDigit 1 (some .boolean) 1 := ⟨(xwc12 _ (List.mem_of_getElem? (i := 28) rfl)), (xwc12 _ (List.mem_of_getElem? (i := 29) rfl)), (xwc2 _ (List.mem_of_getElem? (i := 5) rfl)), (xwc13 _ (List.mem_of_getElem? (i := 0) rfl)), ⟨by decide +kernel, by decide +kernel, by decide +kernel⟩⟩
theorem mvX4_62 : LkV RX4 62 yX4_passes cX4_passes 2 (some .boolean) 4 1 := ⟨(xwc13 _ (List.mem_of_getElem? (i := 1) rfl)), (xwc13 _ (List.mem_of_getElem? (i := 2) rfl)), (xwc0 _ (List.mem_of_getElem? (i := 9) rfl)), (xwc2 _ (List.mem_of_getElem? (i := 5) rfl)), (xwc13 _ (List.mem_of_getElem? (i := 3) rfl)), ⟨by decide +kernel, by decide +kernel, by decide +kernel⟩, _, _, rfl⟩
theorem mvX4_66 : LkV RX4 66 yX4_readPiece cX4_readPiece 2 (some .int) 4 0 := ⟨(xwc13 _ (List.mem_of_getElem? (i := 4) rfl)), (xwc13 _ (List.mem_of_getElem? (i := 5) rfl)), (xwc0 _ (List.mem_of_getElem? (i := 10) rfl)), (xwc2 _ (List.mem_of_getElem? (i := 5) rfl)), (xwc13 _ (List.mem_of_getElem? (i := 6) rfl)), ⟨by decide +kernel, by decide +kernel, by decide +kernel⟩, _, _, rfl⟩
theorem mnX4_69 : LkSN yX6_oneIf cX6_oneIf 1 (some .int) 1 := ⟨(xwc11 _ (List.mem_of_getElem? (i := 12) rfl)), (xwc2 _ (List.mem_of_getElem? (i := 3) rfl)), (xwc11 _ (List.mem_of_getElem? (i := 13) rfl)), ⟨by decide +kernel, by decide +kernel, by decide +kernel⟩⟩
theorem msX6_118 : LkS RX6 118 yX1_pageOf cX1_pageOf 2 (some .int) 2 := ⟨(xwc13 _ (List.mem_of_getElem? (i := 7) rfl)), (xwc13 _ (List.mem_of_getElem? (i := 8) rfl)), (xwc2 _ (List.mem_of_getElem? (i := 4) rfl)), (xwc13 _ (List.mem_of_getElem? (i := 9) rfl)), ⟨by decide +kernel, by decide +kernel, by decide +kernel⟩⟩
theorem mvX6_121 : LkV RX6 121 yX1_write cX1_write 4 none 1 2 := ⟨(xwc13 _ (List.mem_of_getElem? (i := 10) rfl)), (xwc13 _ (List.mem_of_getElem? (i := 11) rfl)), (xwc13 _ (List.mem_of_getElem? (i := 12) rfl)), (xwc2 _ (List.mem_of_getElem? (i := 4) rfl)), (xwc13 _ (List.mem_of_getElem? (i := 13) rfl)), ⟨by decide +kernel, by decide +kernel, by decide +kernel⟩, _, _, rfl⟩
theorem mvL_43 : LkV RL 43 yX6_versions cX6_versions 2 (some .int) 6 1 := ⟨(xwc13 _ (List.mem_of_getElem? (i := 15) rfl)), (xwc13 _ (List.mem_of_getElem? (i := 16) rfl)), (xwc13 _ (List.mem_of_getElem? (i := 17) rfl)), (xwc2 _ (List.mem_of_getElem? (i := 3) rfl)), (xwc13 _ (List.mem_of_getElem? (i := 18) rfl)), ⟨by decide +kernel, by decide +kernel, by decide +kernel⟩, _, _, rfl⟩
theorem mvL_47 : LkV RL 47 yX6_phase cX6_phase 6 (some .int) 6 4 := ⟨(xwc13 _ (List.mem_of_getElem? (i := 19) rfl)), (xwc13 _ (List.mem_of_getElem? (i := 20) rfl)), (xwc13 _ (List.mem_of_getElem? (i := 21) rfl)), (xwc2 _ (List.mem_of_getElem? (i := 3) rfl)), (xwc13 _ (List.mem_of_getElem? (i := 22) rfl)), ⟨by decide +kernel, by decide +kernel, by decide +kernel⟩, _, _, rfl⟩
theorem mvX6_128 : LkV RX6 128 yX1_find cX1_find 4 (some .int) 1 3 := ⟨(xwc13 _ (List.mem_of_getElem? (i := 23) rfl)), (xwc13 _ (List.mem_of_getElem? (i := 24) rfl)), (xwc13 _ (List.mem_of_getElem? (i := 25) rfl)), (xwc2 _ (List.mem_of_getElem? (i := 4) rfl)), (xwc13 _ (List.mem_of_getElem? (i := 26) rfl)), ⟨by decide +kernel, by decide +kernel, by decide +kernel⟩, _, _, rfl⟩
theorem mvL_52 : LkV RL 52 yX6_batch cX6_batch 5 (some .int) 6 4 := ⟨(xwc13 _ (List.mem_of_getElem? (i := 27) rfl)), (xwc13 _ (List.mem_of_getElem? (i := 28) rfl)), (xwc13 _ (List.mem_of_getElem? (i := 29) rfl)), (xwc2 _ (List.mem_of_getElem? (i := 3) rfl)), (xwc14 _ (List.mem_of_getElem? (i := 0) rfl)), ⟨by decide +kernel, by decide +kernel, by decide +kernel⟩, _, _, rfl⟩
theorem msX6_132 : LkS RX6 132 yX6_isPriority cX6_isPriority 1 (some .boolean) 1 := ⟨(xwc14 _ (List.mem_of_getElem? (i := 1) rfl)), (xwc14 _ (List.mem_of_getElem? (i := 2) rfl)), (xwc2 _ (List.mem_of_getElem? (i := 3) rfl)), (xwc14 _ (List.mem_of_getElem? (i := 3) rfl)), ⟨by decide +kernel, by decide +kernel, by decide +kernel⟩⟩
theorem mvX6_135 : LkV RX6 135 yX6_isBatch cX6_isBatch 2 (some .boolean) 6 1 := ⟨(xwc14 _ (List.mem_of_getElem? (i := 4) rfl)), (xwc14 _ (List.mem_of_getElem? (i := 5) rfl)), (xwc0 _ (List.mem_of_getElem? (i := 11) rfl)), (xwc2 _ (List.mem_of_getElem? (i := 3) rfl)), (xwc14 _ (List.mem_of_getElem? (i := 6) rfl)), ⟨by decide +kernel, by decide +kernel, by decide +kernel⟩, _, _, rfl⟩
theorem mvX6_138 : LkV RX6 138 yX3_isGivenUp cX3_isGivenUp 2 (some .boolean) 3 1 := ⟨(xwc14 _ (List.mem_of_getElem? (i := 7) rfl)), (xwc14 _ (List.mem_of_getElem? (i := 8) rfl)), (xwc14 _ (List.mem_of_getElem? (i := 9) rfl)), (xwc2 _ (List.mem_of_getElem? (i := 6) rfl)), (xwc14 _ (List.mem_of_getElem? (i := 10) rfl)), ⟨by decide +kernel, by decide +kernel, by decide +kernel⟩, _, _, rfl⟩
theorem mvX6_144 : LkV RX6 144 yX3_addBatch cX3_addBatch 6 (some .int) 3 4 := ⟨(xwc14 _ (List.mem_of_getElem? (i := 11) rfl)), (xwc14 _ (List.mem_of_getElem? (i := 12) rfl)), (xwc14 _ (List.mem_of_getElem? (i := 13) rfl)), (xwc2 _ (List.mem_of_getElem? (i := 6) rfl)), (xwc14 _ (List.mem_of_getElem? (i := 14) rfl)), ⟨by decide +kernel, by decide +kernel, by decide +kernel⟩, _, _, rfl⟩
theorem mvX3_118 : LkV RX3 118 yX0_reset cX0_reset 6 none 0 5 := ⟨(xwc14 _ (List.mem_of_getElem? (i := 15) rfl)), (xwc14 _ (List.mem_of_getElem? (i := 16) rfl)), (xwc14 _ (List.mem_of_getElem? (i := 17) rfl)), (xwc2 _ (List.mem_of_getElem? (i := 9) rfl)), (xwc14 _ (List.mem_of_getElem? (i := 18) rfl)), ⟨by decide +kernel, by decide +kernel, by decide +kernel⟩, _, _, rfl⟩
theorem mvL_56 : LkV RL 56 yX6_start cX6_start 2 (some .int) 6 1 := ⟨(xwc14 _ (List.mem_of_getElem? (i := 19) rfl)), (xwc14 _ (List.mem_of_getElem? (i := 20) rfl)), (xwc14 _ (List.mem_of_getElem? (i := 21) rfl)), (xwc2 _ (List.mem_of_getElem? (i := 3) rfl)), (xwc14 _ (List.mem_of_getElem? (i := 22) rfl)), ⟨by decide +kernel, by decide +kernel, by decide +kernel⟩, _, _, rfl⟩
theorem mvX6_157 : LkV RX6 157 yX3_batchesIn cX3_batchesIn 4 (some .int) 3 1 := ⟨(xwc14 _ (List.mem_of_getElem? (i := 23) rfl)), (xwc14 _ (List.mem_of_getElem? (i := 24) rfl)), (xwc14 _ (List.mem_of_getElem? (i := 25) rfl)), (xwc2 _ (List.mem_of_getElem? (i := 6) rfl)), (xwc14 _ (List.mem_of_getElem? (i := 26) rfl)), ⟨by decide +kernel, by decide +kernel, by decide +kernel⟩, _, _, rfl⟩
theorem mvL_60 : LkV RL 60 yX6_hold cX6_hold 2 (some .int) 6 1 := ⟨(xwc14 _ (List.mem_of_getElem? (i := 27) rfl)), (xwc14 _ (List.mem_of_getElem? (i := 28) rfl)), (xwc14 _ (List.mem_of_getElem? (i := 29) rfl)), (xwc2 _ (List.mem_of_getElem? (i := 3) rfl)), (xwc15 _ (List.mem_of_getElem? (i := 0) rfl)), ⟨by decide +kernel, by decide +kernel, by decide +kernel⟩, _, _, rfl⟩
theorem mvX6_160 : LkV RX6 160 yX0_isActive cX0_isActive 1 (some .boolean) 0 0 := ⟨(xwc15 _ (List.mem_of_getElem? (i := 1) rfl)), (xwc10 _ (List.mem_of_getElem? (i := 12) rfl)), (xwc10 _ (List.mem_of_getElem? (i := 13) rfl)), (xwc2 _ (List.mem_of_getElem? (i := 9) rfl)), (xwc10 _ (List.mem_of_getElem? (i := 14) rfl)), ⟨by decide +kernel, by decide +kernel, by decide +kernel⟩, _, _, rfl⟩
theorem mvX6_164 : LkV RX6 164 yX3_holdBatch cX3_holdBatch 2 none 3 1 := ⟨(xwc15 _ (List.mem_of_getElem? (i := 2) rfl)), (xwc10 _ (List.mem_of_getElem? (i := 16) rfl)), (xwc10 _ (List.mem_of_getElem? (i := 17) rfl)), (xwc2 _ (List.mem_of_getElem? (i := 6) rfl)), (xwc10 _ (List.mem_of_getElem? (i := 18) rfl)), ⟨by decide +kernel, by decide +kernel, by decide +kernel⟩, _, _, rfl⟩
theorem mvL_64 : LkV RL 64 yX6_restart cX6_restart 2 (some .int) 6 1 := ⟨(xwc15 _ (List.mem_of_getElem? (i := 3) rfl)), (xwc15 _ (List.mem_of_getElem? (i := 4) rfl)), (xwc15 _ (List.mem_of_getElem? (i := 5) rfl)), (xwc2 _ (List.mem_of_getElem? (i := 3) rfl)), (xwc15 _ (List.mem_of_getElem? (i := 6) rfl)), ⟨by decide +kernel, by decide +kernel, by decide +kernel⟩, _, _, rfl⟩
theorem mvX6_168 : LkV RX6 168 yX3_hasBrokenUnit cX3_hasBrokenUnit 3 (some .boolean) 3 1 := ⟨(xwc15 _ (List.mem_of_getElem? (i := 7) rfl)), (xwc15 _ (List.mem_of_getElem? (i := 8) rfl)), (xwc15 _ (List.mem_of_getElem? (i := 9) rfl)), (xwc2 _ (List.mem_of_getElem? (i := 6) rfl)), (xwc15 _ (List.mem_of_getElem? (i := 10) rfl)), ⟨by decide +kernel, by decide +kernel, by decide +kernel⟩, _, _, rfl⟩
theorem mvX6_171 : LkV RX6 171 yX3_restartBatch cX3_restartBatch 3 none 3 1 := ⟨(xwc15 _ (List.mem_of_getElem? (i := 11) rfl)), (xwc15 _ (List.mem_of_getElem? (i := 12) rfl)), (xwc15 _ (List.mem_of_getElem? (i := 13) rfl)), (xwc2 _ (List.mem_of_getElem? (i := 6) rfl)), (xwc15 _ (List.mem_of_getElem? (i := 14) rfl)), ⟨by decide +kernel, by decide +kernel, by decide +kernel⟩, _, _, rfl⟩
theorem mvX3_101 : LkV RX3 101 yX3_valueOf cX3_valueOf 3 (some .int) 3 2 := ⟨(xwc15 _ (List.mem_of_getElem? (i := 15) rfl)), (xwc15 _ (List.mem_of_getElem? (i := 16) rfl)), (xwc0 _ (List.mem_of_getElem? (i := 12) rfl)), (xwc2 _ (List.mem_of_getElem? (i := 6) rfl)), (xwc15 _ (List.mem_of_getElem? (i := 17) rfl)), ⟨by decide +kernel, by decide +kernel, by decide +kernel⟩, _, _, rfl⟩
theorem msX3_133 : LkS RX3 133 yX1_pageOf cX1_pageOf 2 (some .int) 2 := ⟨(xwc15 _ (List.mem_of_getElem? (i := 18) rfl)), (xwc13 _ (List.mem_of_getElem? (i := 8) rfl)), (xwc2 _ (List.mem_of_getElem? (i := 4) rfl)), (xwc13 _ (List.mem_of_getElem? (i := 9) rfl)), ⟨by decide +kernel, by decide +kernel, by decide +kernel⟩⟩
theorem mvX3_142 : LkV RX3 142 yX1_find cX1_find 4 (some .int) 1 3 := ⟨(xwc15 _ (List.mem_of_getElem? (i := 19) rfl)), (xwc13 _ (List.mem_of_getElem? (i := 24) rfl)), (xwc13 _ (List.mem_of_getElem? (i := 25) rfl)), (xwc2 _ (List.mem_of_getElem? (i := 4) rfl)), (xwc13 _ (List.mem_of_getElem? (i := 26) rfl)), ⟨by decide +kernel, by decide +kernel, by decide +kernel⟩, _, _, rfl⟩
theorem mvX6_174 : LkV RX6 174 yX3_ticksLeft cX3_ticksLeft 2 (some .int) 3 1 := ⟨(xwc15 _ (List.mem_of_getElem? (i := 20) rfl)), (xwc15 _ (List.mem_of_getElem? (i := 21) rfl)), (xwc15 _ (List.mem_of_getElem? (i := 22) rfl)), (xwc2 _ (List.mem_of_getElem? (i := 6) rfl)), (xwc15 _ (List.mem_of_getElem? (i := 23) rfl)), ⟨by decide +kernel, by decide +kernel, by decide +kernel⟩, _, _, rfl⟩
theorem mvL_68 : LkV RL 68 yX6_stop cX6_stop 3 (some .int) 6 1 := ⟨(xwc15 _ (List.mem_of_getElem? (i := 24) rfl)), (xwc15 _ (List.mem_of_getElem? (i := 25) rfl)), (xwc15 _ (List.mem_of_getElem? (i := 26) rfl)), (xwc2 _ (List.mem_of_getElem? (i := 3) rfl)), (xwc15 _ (List.mem_of_getElem? (i := 27) rfl)), ⟨by decide +kernel, by decide +kernel, by decide +kernel⟩, _, _, rfl⟩
theorem mvX6_177 : LkV RX6 177 yX3_stopBatch cX3_stopBatch 3 none 3 1 := ⟨(xwc15 _ (List.mem_of_getElem? (i := 28) rfl)), (xwc15 _ (List.mem_of_getElem? (i := 29) rfl)), (xwc16 _ (List.mem_of_getElem? (i := 0) rfl)), (xwc2 _ (List.mem_of_getElem? (i := 6) rfl)), (xwc16 _ (List.mem_of_getElem? (i := 1) rfl)), ⟨by decide +kernel, by decide +kernel, by decide +kernel⟩, _, _, rfl⟩
theorem mvX3_153 : LkV RX3 153 yX0_isUnderWay cX0_isUnderWay 1 (some .boolean) 0 0 := ⟨(xwc16 _ (List.mem_of_getElem? (i := 2) rfl)), (xwc16 _ (List.mem_of_getElem? (i := 3) rfl)), (xwc16 _ (List.mem_of_getElem? (i := 4) rfl)), (xwc2 _ (List.mem_of_getElem? (i := 9) rfl)), (xwc16 _ (List.mem_of_getElem? (i := 5) rfl)), ⟨by decide +kernel, by decide +kernel, by decide +kernel⟩, _, _, rfl⟩
theorem mvX3_156 : LkV RX3 156 yX3_bringToEnd cX3_bringToEnd 4 none 3 3 := ⟨(xwc16 _ (List.mem_of_getElem? (i := 6) rfl)), (xwc16 _ (List.mem_of_getElem? (i := 7) rfl)), (xwc0 _ (List.mem_of_getElem? (i := 13) rfl)), (xwc2 _ (List.mem_of_getElem? (i := 6) rfl)), (xwc16 _ (List.mem_of_getElem? (i := 8) rfl)), ⟨by decide +kernel, by decide +kernel, by decide +kernel⟩, _, _, rfl⟩
theorem mvX3_165 : LkV RX3 165 yX3_releaseUnit cX3_releaseUnit 2 none 3 1 := ⟨(xwc16 _ (List.mem_of_getElem? (i := 9) rfl)), (xwc16 _ (List.mem_of_getElem? (i := 10) rfl)), (xwc0 _ (List.mem_of_getElem? (i := 14) rfl)), (xwc2 _ (List.mem_of_getElem? (i := 6) rfl)), (xwc16 _ (List.mem_of_getElem? (i := 11) rfl)), ⟨by decide +kernel, by decide +kernel, by decide +kernel⟩, _, _, rfl⟩
theorem mvL_72 : LkV RL 72 yX6_abort cX6_abort 2 (some .int) 6 1 := ⟨(xwc16 _ (List.mem_of_getElem? (i := 12) rfl)), (xwc16 _ (List.mem_of_getElem? (i := 13) rfl)), (xwc16 _ (List.mem_of_getElem? (i := 14) rfl)), (xwc2 _ (List.mem_of_getElem? (i := 3) rfl)), (xwc16 _ (List.mem_of_getElem? (i := 15) rfl)), ⟨by decide +kernel, by decide +kernel, by decide +kernel⟩, _, _, rfl⟩
theorem mvX6_180 : LkV RX6 180 yX0_isAtEnd cX0_isAtEnd 1 (some .boolean) 0 0 := ⟨(xwc16 _ (List.mem_of_getElem? (i := 16) rfl)), (xwc16 _ (List.mem_of_getElem? (i := 17) rfl)), (xwc16 _ (List.mem_of_getElem? (i := 18) rfl)), (xwc2 _ (List.mem_of_getElem? (i := 9) rfl)), (xwc16 _ (List.mem_of_getElem? (i := 19) rfl)), ⟨by decide +kernel, by decide +kernel, by decide +kernel⟩, _, _, rfl⟩
theorem mvX6_183 : LkV RX6 183 yX3_abortWithFollowing cX3_abortWithFollowing 5 (some .int) 3 1 := ⟨(xwc16 _ (List.mem_of_getElem? (i := 20) rfl)), (xwc16 _ (List.mem_of_getElem? (i := 21) rfl)), (xwc16 _ (List.mem_of_getElem? (i := 22) rfl)), (xwc2 _ (List.mem_of_getElem? (i := 6) rfl)), (xwc16 _ (List.mem_of_getElem? (i := 23) rfl)), ⟨by decide +kernel, by decide +kernel, by decide +kernel⟩, _, _, rfl⟩
theorem mvX3_162 : LkV RX3 162 yX0_isAtEnd cX0_isAtEnd 1 (some .boolean) 0 0 := ⟨(xwc16 _ (List.mem_of_getElem? (i := 24) rfl)), (xwc16 _ (List.mem_of_getElem? (i := 17) rfl)), (xwc16 _ (List.mem_of_getElem? (i := 18) rfl)), (xwc2 _ (List.mem_of_getElem? (i := 9) rfl)), (xwc16 _ (List.mem_of_getElem? (i := 19) rfl)), ⟨by decide +kernel, by decide +kernel, by decide +kernel⟩, _, _, rfl⟩
theorem mvL_76 : LkV RL 76 yX6_priority cX6_priority 4 (some .int) 6 2 := ⟨(xwc16 _ (List.mem_of_getElem? (i := 25) rfl)), (xwc16 _ (List.mem_of_getElem? (i := 26) rfl)), (xwc16 _ (List.mem_of_getElem? (i := 27) rfl)), (xwc2 _ (List.mem_of_getElem? (i := 3) rfl)), (xwc16 _ (List.mem_of_getElem? (i := 28) rfl)), ⟨by decide +kernel, by decide +kernel, by decide +kernel⟩, _, _, rfl⟩
theorem mvL_80 : LkV RL 80 yX6_batchInfo cX6_batchInfo 4 (some .int) 6 2 := ⟨(xwc16 _ (List.mem_of_getElem? (i := 29) rfl)), (xwc17 _ (List.mem_of_getElem? (i := 0) rfl)), (xwc17 _ (List.mem_of_getElem? (i := 1) rfl)), (xwc2 _ (List.mem_of_getElem? (i := 3) rfl)), (xwc17 _ (List.mem_of_getElem? (i := 2) rfl)), ⟨by decide +kernel, by decide +kernel, by decide +kernel⟩, _, _, rfl⟩
theorem mvX6_207 : LkV RX6 207 yX0_isUnderWay cX0_isUnderWay 1 (some .boolean) 0 0 := ⟨(xwc17 _ (List.mem_of_getElem? (i := 3) rfl)), (xwc16 _ (List.mem_of_getElem? (i := 3) rfl)), (xwc16 _ (List.mem_of_getElem? (i := 4) rfl)), (xwc2 _ (List.mem_of_getElem? (i := 9) rfl)), (xwc16 _ (List.mem_of_getElem? (i := 5) rfl)), ⟨by decide +kernel, by decide +kernel, by decide +kernel⟩, _, _, rfl⟩
theorem msX6_214 : LkS RX6 214 yX6_bitsOf cX6_bitsOf 4 (some .int) 1 := ⟨(xwc17 _ (List.mem_of_getElem? (i := 4) rfl)), (xwc17 _ (List.mem_of_getElem? (i := 5) rfl)), (xwc2 _ (List.mem_of_getElem? (i := 3) rfl)), (xwc17 _ (List.mem_of_getElem? (i := 6) rfl)), ⟨by decide +kernel, by decide +kernel, by decide +kernel⟩⟩
theorem mvL_84 : LkV RL 84 yX6_waits cX6_waits 2 (some .int) 6 1 := ⟨(xwc17 _ (List.mem_of_getElem? (i := 8) rfl)), (xwc17 _ (List.mem_of_getElem? (i := 9) rfl)), (xwc17 _ (List.mem_of_getElem? (i := 10) rfl)), (xwc2 _ (List.mem_of_getElem? (i := 3) rfl)), (xwc17 _ (List.mem_of_getElem? (i := 11) rfl)), ⟨by decide +kernel, by decide +kernel, by decide +kernel⟩, _, _, rfl⟩
theorem mvX6_218 : LkV RX6 218 yX3_reasonToWait cX3_reasonToWait 5 (some .int) 3 2 := ⟨(xwc17 _ (List.mem_of_getElem? (i := 12) rfl)), (xwc17 _ (List.mem_of_getElem? (i := 13) rfl)), (xwc17 _ (List.mem_of_getElem? (i := 14) rfl)), (xwc2 _ (List.mem_of_getElem? (i := 6) rfl)), (xwc17 _ (List.mem_of_getElem? (i := 15) rfl)), ⟨by decide +kernel, by decide +kernel, by decide +kernel⟩, _, _, rfl⟩
theorem mvX3_183 : LkV RX3 183 yX0_hasBegun cX0_hasBegun 1 (some .boolean) 0 0 := ⟨(xwc17 _ (List.mem_of_getElem? (i := 16) rfl)), (xwc17 _ (List.mem_of_getElem? (i := 17) rfl)), (xwc17 _ (List.mem_of_getElem? (i := 18) rfl)), (xwc2 _ (List.mem_of_getElem? (i := 9) rfl)), (xwc17 _ (List.mem_of_getElem? (i := 19) rfl)), ⟨by decide +kernel, by decide +kernel, by decide +kernel⟩, _, _, rfl⟩
theorem mvX3_186 : LkV RX3 186 yX3_unitFor cX3_unitFor 6 (some .int) 3 2 := ⟨(xwc17 _ (List.mem_of_getElem? (i := 20) rfl)), (xwc17 _ (List.mem_of_getElem? (i := 21) rfl)), (xwc0 _ (List.mem_of_getElem? (i := 15) rfl)), (xwc2 _ (List.mem_of_getElem? (i := 6) rfl)), (xwc17 _ (List.mem_of_getElem? (i := 22) rfl)), ⟨by decide +kernel, by decide +kernel, by decide +kernel⟩, _, _, rfl⟩
theorem mvX3_94 : LkV RX3 94 yX5_isFreeAfter cX5_isFreeAfter 2 (some .boolean) 5 1 := ⟨(xwc17 _ (List.mem_of_getElem? (i := 23) rfl)), (xwc11 _ (List.mem_of_getElem? (i := 15) rfl)), (xwc11 _ (List.mem_of_getElem? (i := 16) rfl)), (xwc2 _ (List.mem_of_getElem? (i := 8) rfl)), (xwc11 _ (List.mem_of_getElem? (i := 17) rfl)), ⟨by decide +kernel, by decide +kernel, by decide +kernel⟩, _, _, rfl⟩
theorem mvL_88 : LkV RL 88 yX6_inOrder cX6_inOrder 2 (some .int) 6 1 := ⟨(xwc17 _ (List.mem_of_getElem? (i := 24) rfl)), (xwc17 _ (List.mem_of_getElem? (i := 25) rfl)), (xwc17 _ (List.mem_of_getElem? (i := 26) rfl)), (xwc2 _ (List.mem_of_getElem? (i := 3) rfl)), (xwc17 _ (List.mem_of_getElem? (i := 27) rfl)), ⟨by decide +kernel, by decide +kernel, by decide +kernel⟩, _, _, rfl⟩
theorem mvX6_221 : LkV RX6 221 yX3_arrange cX3_arrange 2 none 3 0 := ⟨(xwc17 _ (List.mem_of_getElem? (i := 28) rfl)), (xwc17 _ (List.mem_of_getElem? (i := 29) rfl)), (xwc18 _ (List.mem_of_getElem? (i := 0) rfl)), (xwc2 _ (List.mem_of_getElem? (i := 6) rfl)), (xwc18 _ (List.mem_of_getElem? (i := 1) rfl)), ⟨by decide +kernel, by decide +kernel, by decide +kernel⟩, _, _, rfl⟩
theorem mvX3_171 : LkV RX3 171 yX3_insertInOrder cX3_insertInOrder 3 none 3 1 := ⟨(xwc18 _ (List.mem_of_getElem? (i := 2) rfl)), (xwc18 _ (List.mem_of_getElem? (i := 3) rfl)), (xwc0 _ (List.mem_of_getElem? (i := 16) rfl)), (xwc2 _ (List.mem_of_getElem? (i := 6) rfl)), (xwc18 _ (List.mem_of_getElem? (i := 4) rfl)), ⟨by decide +kernel, by decide +kernel, by decide +kernel⟩, _, _, rfl⟩
theorem mvL_92 : LkV RL 92 yX6_run cX6_run 4 (some .int) 6 1 := ⟨(xwc18 _ (List.mem_of_getElem? (i := 5) rfl)), (xwc18 _ (List.mem_of_getElem? (i := 6) rfl)), (xwc18 _ (List.mem_of_getElem? (i := 7) rfl)), (xwc2 _ (List.mem_of_getElem? (i := 3) rfl)), (xwc18 _ (List.mem_of_getElem? (i := 8) rfl)), ⟨by decide +kernel, by decide +kernel, by decide +kernel⟩, _, _, rfl⟩
theorem mvX6_234 : LkV RX6 234 yX3_passTick cX3_passTick 4 (some .boolean) 3 0 := ⟨(xwc18 _ (List.mem_of_getElem? (i := 10) rfl)), (xwc18 _ (List.mem_of_getElem? (i := 11) rfl)), (xwc18 _ (List.mem_of_getElem? (i := 12) rfl)), (xwc2 _ (List.mem_of_getElem? (i := 6) rfl)), (xwc18 _ (List.mem_of_getElem? (i := 13) rfl)), ⟨by decide +kernel, by decide +kernel, by decide +kernel⟩, _, _, rfl⟩
theorem mvX3_177 : LkV RX3 177 yX3_cleanUnits cX3_cleanUnits 3 (some .boolean) 3 0 := ⟨(xwc18 _ (List.mem_of_getElem? (i := 14) rfl)), (xwc18 _ (List.mem_of_getElem? (i := 15) rfl)), (xwc0 _ (List.mem_of_getElem? (i := 17) rfl)), (xwc2 _ (List.mem_of_getElem? (i := 6) rfl)), (xwc18 _ (List.mem_of_getElem? (i := 16) rfl)), ⟨by decide +kernel, by decide +kernel, by decide +kernel⟩, _, _, rfl⟩
theorem mvX3_180 : LkV RX3 180 yX3_moveOn cX3_moveOn 4 (some .boolean) 3 1 := ⟨(xwc18 _ (List.mem_of_getElem? (i := 17) rfl)), (xwc18 _ (List.mem_of_getElem? (i := 18) rfl)), (xwc0 _ (List.mem_of_getElem? (i := 18) rfl)), (xwc2 _ (List.mem_of_getElem? (i := 6) rfl)), (xwc18 _ (List.mem_of_getElem? (i := 19) rfl)), ⟨by decide +kernel, by decide +kernel, by decide +kernel⟩, _, _, rfl⟩
theorem mvX3_189 : LkV RX3 189 yX3_reasonToWait cX3_reasonToWait 5 (some .int) 3 2 := ⟨(xwc18 _ (List.mem_of_getElem? (i := 20) rfl)), (xwc17 _ (List.mem_of_getElem? (i := 13) rfl)), (xwc17 _ (List.mem_of_getElem? (i := 14) rfl)), (xwc2 _ (List.mem_of_getElem? (i := 6) rfl)), (xwc17 _ (List.mem_of_getElem? (i := 15) rfl)), ⟨by decide +kernel, by decide +kernel, by decide +kernel⟩, _, _, rfl⟩
theorem mvX3_192 : LkV RX3 192 yX3_takeUnit cX3_takeUnit 4 (some .boolean) 3 1 := ⟨(xwc18 _ (List.mem_of_getElem? (i := 21) rfl)), (xwc18 _ (List.mem_of_getElem? (i := 22) rfl)), (xwc0 _ (List.mem_of_getElem? (i := 19) rfl)), (xwc2 _ (List.mem_of_getElem? (i := 6) rfl)), (xwc18 _ (List.mem_of_getElem? (i := 23) rfl)), ⟨by decide +kernel, by decide +kernel, by decide +kernel⟩, _, _, rfl⟩
theorem mvX3_195 : LkV RX3 195 yX3_work cX3_work 4 none 3 1 := ⟨(xwc18 _ (List.mem_of_getElem? (i := 24) rfl)), (xwc18 _ (List.mem_of_getElem? (i := 25) rfl)), (xwc0 _ (List.mem_of_getElem? (i := 20) rfl)), (xwc2 _ (List.mem_of_getElem? (i := 6) rfl)), (xwc18 _ (List.mem_of_getElem? (i := 26) rfl)), ⟨by decide +kernel, by decide +kernel, by decide +kernel⟩, _, _, rfl⟩
theorem mvX3_198 : LkV RX3 198 yX3_endPhase cX3_endPhase 4 none 3 1 := ⟨(xwc18 _ (List.mem_of_getElem? (i := 27) rfl)), (xwc18 _ (List.mem_of_getElem? (i := 28) rfl)), (xwc0 _ (List.mem_of_getElem? (i := 21) rfl)), (xwc2 _ (List.mem_of_getElem? (i := 6) rfl)), (xwc18 _ (List.mem_of_getElem? (i := 29) rfl)), ⟨by decide +kernel, by decide +kernel, by decide +kernel⟩, _, _, rfl⟩
theorem mvL_96 : LkV RL 96 yX6_ticksTo cX6_ticksTo 5 (some .int) 6 1 := ⟨(xwc19 _ (List.mem_of_getElem? (i := 1) rfl)), (xwc19 _ (List.mem_of_getElem? (i := 2) rfl)), (xwc19 _ (List.mem_of_getElem? (i := 3) rfl)), (xwc2 _ (List.mem_of_getElem? (i := 3) rfl)), (xwc19 _ (List.mem_of_getElem? (i := 4) rfl)), ⟨by decide +kernel, by decide +kernel, by decide +kernel⟩, _, _, rfl⟩
theorem mvL_100 : LkV RL 100 yX6_count cX6_count 2 (some .int) 6 1 := ⟨(xwc19 _ (List.mem_of_getElem? (i := 5) rfl)), (xwc19 _ (List.mem_of_getElem? (i := 6) rfl)), (xwc19 _ (List.mem_of_getElem? (i := 7) rfl)), (xwc2 _ (List.mem_of_getElem? (i := 3) rfl)), (xwc19 _ (List.mem_of_getElem? (i := 8) rfl)), ⟨by decide +kernel, by decide +kernel, by decide +kernel⟩, _, _, rfl⟩
theorem mvX6_241 : LkV RX6 241 yX3_freeUnits cX3_freeUnits 3 (some .int) 3 0 := ⟨(xwc19 _ (List.mem_of_getElem? (i := 9) rfl)), (xwc19 _ (List.mem_of_getElem? (i := 10) rfl)), (xwc19 _ (List.mem_of_getElem? (i := 11) rfl)), (xwc2 _ (List.mem_of_getElem? (i := 6) rfl)), (xwc19 _ (List.mem_of_getElem? (i := 12) rfl)), ⟨by decide +kernel, by decide +kernel, by decide +kernel⟩, _, _, rfl⟩
theorem mvX6_257 : LkV RX6 257 yX3_workedTicks cX3_workedTicks 3 (some .int) 3 0 := ⟨(xwc19 _ (List.mem_of_getElem? (i := 13) rfl)), (xwc19 _ (List.mem_of_getElem? (i := 14) rfl)), (xwc19 _ (List.mem_of_getElem? (i := 15) rfl)), (xwc2 _ (List.mem_of_getElem? (i := 6) rfl)), (xwc19 _ (List.mem_of_getElem? (i := 16) rfl)), ⟨by decide +kernel, by decide +kernel, by decide +kernel⟩, _, _, rfl⟩
theorem mvX6_260 : LkV RX6 260 yX3_freePieces cX3_freePieces 3 (some .int) 3 0 := ⟨(xwc19 _ (List.mem_of_getElem? (i := 17) rfl)), (xwc19 _ (List.mem_of_getElem? (i := 18) rfl)), (xwc19 _ (List.mem_of_getElem? (i := 19) rfl)), (xwc2 _ (List.mem_of_getElem? (i := 6) rfl)), (xwc19 _ (List.mem_of_getElem? (i := 20) rfl)), ⟨by decide +kernel, by decide +kernel, by decide +kernel⟩, _, _, rfl⟩
theorem mvL_104 : LkV RL 104 yX6_event cX6_event 3 (some .int) 6 2 := ⟨(xwc19 _ (List.mem_of_getElem? (i := 21) rfl)), (xwc19 _ (List.mem_of_getElem? (i := 22) rfl)), (xwc19 _ (List.mem_of_getElem? (i := 23) rfl)), (xwc2 _ (List.mem_of_getElem? (i := 3) rfl)), (xwc19 _ (List.mem_of_getElem? (i := 24) rfl)), ⟨by decide +kernel, by decide +kernel, by decide +kernel⟩, _, _, rfl⟩
theorem mvX6_263 : LkV RX6 263 yX2_find cX2_find 4 (some .int) 2 2 := ⟨(xwc19 _ (List.mem_of_getElem? (i := 25) rfl)), (xwc19 _ (List.mem_of_getElem? (i := 26) rfl)), (xwc19 _ (List.mem_of_getElem? (i := 27) rfl)), (xwc2 _ (List.mem_of_getElem? (i := 7) rfl)), (xwc19 _ (List.mem_of_getElem? (i := 28) rfl)), ⟨by decide +kernel, by decide +kernel, by decide +kernel⟩, _, _, rfl⟩
theorem mvL_108 : LkV RL 108 yX6_undo cX6_undo 1 (some .int) 6 0 := ⟨(xwc19 _ (List.mem_of_getElem? (i := 29) rfl)), (xwc20 _ (List.mem_of_getElem? (i := 0) rfl)), (xwc20 _ (List.mem_of_getElem? (i := 1) rfl)), (xwc2 _ (List.mem_of_getElem? (i := 3) rfl)), (xwc20 _ (List.mem_of_getElem? (i := 2) rfl)), ⟨by decide +kernel, by decide +kernel, by decide +kernel⟩, _, _, rfl⟩
theorem mvL_113 : LkV RL 113 yX6_type cX6_type 2 (some .int) 6 1 := ⟨(xwc20 _ (List.mem_of_getElem? (i := 3) rfl)), (xwc20 _ (List.mem_of_getElem? (i := 4) rfl)), (xwc20 _ (List.mem_of_getElem? (i := 5) rfl)), (xwc2 _ (List.mem_of_getElem? (i := 3) rfl)), (xwc20 _ (List.mem_of_getElem? (i := 6) rfl)), ⟨by decide +kernel, by decide +kernel, by decide +kernel⟩, _, _, rfl⟩
theorem mvX6_265 : LkV RX6 265 yX4_append cX4_append 2 none 4 1 := ⟨(xwc20 _ (List.mem_of_getElem? (i := 7) rfl)), (xwc20 _ (List.mem_of_getElem? (i := 8) rfl)), (xwc20 _ (List.mem_of_getElem? (i := 9) rfl)), (xwc2 _ (List.mem_of_getElem? (i := 5) rfl)), (xwc20 _ (List.mem_of_getElem? (i := 10) rfl)), ⟨by decide +kernel, by decide +kernel, by decide +kernel⟩, _, _, rfl⟩
theorem mvL_117 : LkV RL 117 yX6_clearText cX6_clearText 2 (some .int) 6 0 := ⟨(xwc20 _ (List.mem_of_getElem? (i := 11) rfl)), (xwc20 _ (List.mem_of_getElem? (i := 12) rfl)), (xwc20 _ (List.mem_of_getElem? (i := 13) rfl)), (xwc2 _ (List.mem_of_getElem? (i := 3) rfl)), (xwc20 _ (List.mem_of_getElem? (i := 14) rfl)), ⟨by decide +kernel, by decide +kernel, by decide +kernel⟩, _, _, rfl⟩
theorem mvL_121 : LkV RL 121 yX6_fault cX6_fault 2 (some .int) 6 1 := ⟨(xwc20 _ (List.mem_of_getElem? (i := 15) rfl)), (xwc20 _ (List.mem_of_getElem? (i := 16) rfl)), (xwc20 _ (List.mem_of_getElem? (i := 17) rfl)), (xwc2 _ (List.mem_of_getElem? (i := 3) rfl)), (xwc20 _ (List.mem_of_getElem? (i := 18) rfl)), ⟨by decide +kernel, by decide +kernel, by decide +kernel⟩, _, _, rfl⟩
theorem miX7_init : LkI yX7_init cX7_init 2 0 := ⟨(xwc20 _ (List.mem_of_getElem? (i := 22) rfl)), (xwc2 _ (List.mem_of_getElem? (i := 10) rfl)), (xwc20 _ (List.mem_of_getElem? (i := 23) rfl)), ⟨by decide +kernel, by decide +kernel, by decide +kernel⟩, rfl⟩
theorem mlL_12 : Cond.methodLink RL 12 yX7_init ∈ xw := (xwc20 _ (List.mem_of_getElem? (i := 21) rfl))
theorem moX7_1 : Cond.methodLink RX7 1 objectInit ∈ xw := (xwc20 _ (List.mem_of_getElem? (i := 24) rfl))
theorem mvL_17 : LkV RL 17 yX7_unit cX7_unit 4 (some .int) 7 2 := ⟨(xwc21 _ (List.mem_of_getElem? (i := 17) rfl)), (xwc21 _ (List.mem_of_getElem? (i := 18) rfl)), (xwc21 _ (List.mem_of_getElem? (i := 19) rfl)), (xwc2 _ (List.mem_of_getElem? (i := 10) rfl)), (xwc21 _ (List.mem_of_getElem? (i := 20) rfl)), ⟨by decide +kernel, by decide +kernel, by decide +kernel⟩, _, _, rfl⟩
theorem msX7_36 : LkS RX7 36 yX7_in cX7_in 3 (some .boolean) 3 := ⟨(xwc21 _ (List.mem_of_getElem? (i := 21) rfl)), (xwc21 _ (List.mem_of_getElem? (i := 22) rfl)), (xwc2 _ (List.mem_of_getElem? (i := 10) rfl)), (xwc21 _ (List.mem_of_getElem? (i := 23) rfl)), ⟨by decide +kernel, by decide +kernel, by decide +kernel⟩⟩
theorem mvX7_44 : LkV RX7 44 yX7_keep cX7_keep 2 none 7 0 := ⟨(xwc21 _ (List.mem_of_getElem? (i := 24) rfl)), (xwc21 _ (List.mem_of_getElem? (i := 25) rfl)), (xwc0 _ (List.mem_of_getElem? (i := 22) rfl)), (xwc2 _ (List.mem_of_getElem? (i := 10) rfl)), (xwc21 _ (List.mem_of_getElem? (i := 26) rfl)), ⟨by decide +kernel, by decide +kernel, by decide +kernel⟩, _, _, rfl⟩
theorem msX7_32 : LkS RX7 32 yX7_bring cX7_bring 5 none 4 := ⟨(xwc21 _ (List.mem_of_getElem? (i := 27) rfl)), (xwc21 _ (List.mem_of_getElem? (i := 28) rfl)), (xwc2 _ (List.mem_of_getElem? (i := 10) rfl)), (xwc21 _ (List.mem_of_getElem? (i := 29) rfl)), ⟨by decide +kernel, by decide +kernel, by decide +kernel⟩⟩
theorem mvX7_47 : LkV RX7 47 yX7_putUnit cX7_putUnit 4 none 7 3 := ⟨(xwc22 _ (List.mem_of_getElem? (i := 0) rfl)), (xwc22 _ (List.mem_of_getElem? (i := 1) rfl)), (xwc0 _ (List.mem_of_getElem? (i := 23) rfl)), (xwc2 _ (List.mem_of_getElem? (i := 10) rfl)), (xwc22 _ (List.mem_of_getElem? (i := 2) rfl)), ⟨by decide +kernel, by decide +kernel, by decide +kernel⟩, _, _, rfl⟩
theorem mvL_22 : LkV RL 22 yX7_fail cX7_fail 3 (some .int) 7 1 := ⟨(xwc22 _ (List.mem_of_getElem? (i := 3) rfl)), (xwc22 _ (List.mem_of_getElem? (i := 4) rfl)), (xwc22 _ (List.mem_of_getElem? (i := 5) rfl)), (xwc2 _ (List.mem_of_getElem? (i := 10) rfl)), (xwc22 _ (List.mem_of_getElem? (i := 6) rfl)), ⟨by decide +kernel, by decide +kernel, by decide +kernel⟩, _, _, rfl⟩
theorem mvX7_68 : LkV RX7 68 yX7_isUnit cX7_isUnit 2 (some .boolean) 7 1 := ⟨(xwc22 _ (List.mem_of_getElem? (i := 7) rfl)), (xwc22 _ (List.mem_of_getElem? (i := 8) rfl)), (xwc0 _ (List.mem_of_getElem? (i := 24) rfl)), (xwc2 _ (List.mem_of_getElem? (i := 10) rfl)), (xwc22 _ (List.mem_of_getElem? (i := 9) rfl)), ⟨by decide +kernel, by decide +kernel, by decide +kernel⟩, _, _, rfl⟩
theorem mvX7_51 : LkV RX7 51 yX7_ofUnit cX7_ofUnit 3 (some .int) 7 2 := ⟨(xwc22 _ (List.mem_of_getElem? (i := 10) rfl)), (xwc22 _ (List.mem_of_getElem? (i := 11) rfl)), (xwc0 _ (List.mem_of_getElem? (i := 25) rfl)), (xwc2 _ (List.mem_of_getElem? (i := 10) rfl)), (xwc22 _ (List.mem_of_getElem? (i := 12) rfl)), ⟨by decide +kernel, by decide +kernel, by decide +kernel⟩, _, _, rfl⟩
theorem mvX7_72 : LkV RX7 72 yX7_isActive cX7_isActive 2 (some .boolean) 7 1 := ⟨(xwc22 _ (List.mem_of_getElem? (i := 13) rfl)), (xwc22 _ (List.mem_of_getElem? (i := 14) rfl)), (xwc0 _ (List.mem_of_getElem? (i := 26) rfl)), (xwc2 _ (List.mem_of_getElem? (i := 10) rfl)), (xwc22 _ (List.mem_of_getElem? (i := 15) rfl)), ⟨by decide +kernel, by decide +kernel, by decide +kernel⟩, _, _, rfl⟩
theorem mvX7_40 : LkV RX7 40 yX7_of cX7_of 3 (some .int) 7 2 := ⟨(xwc22 _ (List.mem_of_getElem? (i := 16) rfl)), (xwc22 _ (List.mem_of_getElem? (i := 17) rfl)), (xwc0 _ (List.mem_of_getElem? (i := 27) rfl)), (xwc2 _ (List.mem_of_getElem? (i := 10) rfl)), (xwc22 _ (List.mem_of_getElem? (i := 18) rfl)), ⟨by decide +kernel, by decide +kernel, by decide +kernel⟩, _, _, rfl⟩
theorem mvX7_75 : LkV RX7 75 yX7_holds cX7_holds 2 none 7 1 := ⟨(xwc22 _ (List.mem_of_getElem? (i := 19) rfl)), (xwc22 _ (List.mem_of_getElem? (i := 20) rfl)), (xwc0 _ (List.mem_of_getElem? (i := 28) rfl)), (xwc2 _ (List.mem_of_getElem? (i := 10) rfl)), (xwc22 _ (List.mem_of_getElem? (i := 21) rfl)), ⟨by decide +kernel, by decide +kernel, by decide +kernel⟩, _, _, rfl⟩
theorem mvX7_57 : LkV RX7 57 yX7_releaseShared cX7_releaseShared 3 none 7 1 := ⟨(xwc22 _ (List.mem_of_getElem? (i := 22) rfl)), (xwc22 _ (List.mem_of_getElem? (i := 23) rfl)), (xwc0 _ (List.mem_of_getElem? (i := 29) rfl)), (xwc2 _ (List.mem_of_getElem? (i := 10) rfl)), (xwc22 _ (List.mem_of_getElem? (i := 24) rfl)), ⟨by decide +kernel, by decide +kernel, by decide +kernel⟩, _, _, rfl⟩
theorem mvX7_54 : LkV RX7 54 yX7_put cX7_put 4 none 7 3 := ⟨(xwc22 _ (List.mem_of_getElem? (i := 25) rfl)), (xwc22 _ (List.mem_of_getElem? (i := 26) rfl)), (xwc1 _ (List.mem_of_getElem? (i := 0) rfl)), (xwc2 _ (List.mem_of_getElem? (i := 10) rfl)), (xwc22 _ (List.mem_of_getElem? (i := 27) rfl)), ⟨by decide +kernel, by decide +kernel, by decide +kernel⟩, _, _, rfl⟩
theorem mvX7_64 : LkV RX7 64 yX7_note cX7_note 4 none 7 2 := ⟨(xwc22 _ (List.mem_of_getElem? (i := 28) rfl)), (xwc22 _ (List.mem_of_getElem? (i := 29) rfl)), (xwc1 _ (List.mem_of_getElem? (i := 1) rfl)), (xwc2 _ (List.mem_of_getElem? (i := 10) rfl)), (xwc23 _ (List.mem_of_getElem? (i := 0) rfl)), ⟨by decide +kernel, by decide +kernel, by decide +kernel⟩, _, _, rfl⟩
theorem mvL_26 : LkV RL 26 yX7_repair cX7_repair 2 (some .int) 7 1 := ⟨(xwc23 _ (List.mem_of_getElem? (i := 1) rfl)), (xwc23 _ (List.mem_of_getElem? (i := 2) rfl)), (xwc23 _ (List.mem_of_getElem? (i := 3) rfl)), (xwc2 _ (List.mem_of_getElem? (i := 10) rfl)), (xwc23 _ (List.mem_of_getElem? (i := 4) rfl)), ⟨by decide +kernel, by decide +kernel, by decide +kernel⟩, _, _, rfl⟩
theorem mvX7_78 : LkV RX7 78 yX7_broken cX7_broken 3 (some .int) 7 0 := ⟨(xwc23 _ (List.mem_of_getElem? (i := 5) rfl)), (xwc23 _ (List.mem_of_getElem? (i := 6) rfl)), (xwc1 _ (List.mem_of_getElem? (i := 2) rfl)), (xwc2 _ (List.mem_of_getElem? (i := 10) rfl)), (xwc23 _ (List.mem_of_getElem? (i := 7) rfl)), ⟨by decide +kernel, by decide +kernel, by decide +kernel⟩, _, _, rfl⟩
theorem mvL_30 : LkV RL 30 yX7_unitInfo cX7_unitInfo 3 (some .int) 7 2 := ⟨(xwc23 _ (List.mem_of_getElem? (i := 8) rfl)), (xwc23 _ (List.mem_of_getElem? (i := 9) rfl)), (xwc23 _ (List.mem_of_getElem? (i := 10) rfl)), (xwc2 _ (List.mem_of_getElem? (i := 10) rfl)), (xwc23 _ (List.mem_of_getElem? (i := 11) rfl)), ⟨by decide +kernel, by decide +kernel, by decide +kernel⟩, _, _, rfl⟩
theorem mvX7_82 : LkV RX7 82 yX7_isFree cX7_isFree 2 (some .boolean) 7 1 := ⟨(xwc23 _ (List.mem_of_getElem? (i := 12) rfl)), (xwc23 _ (List.mem_of_getElem? (i := 13) rfl)), (xwc1 _ (List.mem_of_getElem? (i := 3) rfl)), (xwc2 _ (List.mem_of_getElem? (i := 10) rfl)), (xwc23 _ (List.mem_of_getElem? (i := 14) rfl)), ⟨by decide +kernel, by decide +kernel, by decide +kernel⟩, _, _, rfl⟩
theorem mvL_34 : LkV RL 34 yX7_shared cX7_shared 2 (some .int) 7 1 := ⟨(xwc23 _ (List.mem_of_getElem? (i := 15) rfl)), (xwc23 _ (List.mem_of_getElem? (i := 16) rfl)), (xwc23 _ (List.mem_of_getElem? (i := 17) rfl)), (xwc2 _ (List.mem_of_getElem? (i := 10) rfl)), (xwc23 _ (List.mem_of_getElem? (i := 18) rfl)), ⟨by decide +kernel, by decide +kernel, by decide +kernel⟩, _, _, rfl⟩
theorem mvL_38 : LkV RL 38 yX7_setCleaning cX7_setCleaning 3 (some .int) 7 1 := ⟨(xwc23 _ (List.mem_of_getElem? (i := 19) rfl)), (xwc23 _ (List.mem_of_getElem? (i := 20) rfl)), (xwc23 _ (List.mem_of_getElem? (i := 21) rfl)), (xwc2 _ (List.mem_of_getElem? (i := 10) rfl)), (xwc23 _ (List.mem_of_getElem? (i := 22) rfl)), ⟨by decide +kernel, by decide +kernel, by decide +kernel⟩, _, _, rfl⟩
theorem mvL_42 : LkV RL 42 yX7_recipe cX7_recipe 5 (some .int) 7 1 := ⟨(xwc23 _ (List.mem_of_getElem? (i := 23) rfl)), (xwc23 _ (List.mem_of_getElem? (i := 24) rfl)), (xwc23 _ (List.mem_of_getElem? (i := 25) rfl)), (xwc2 _ (List.mem_of_getElem? (i := 10) rfl)), (xwc23 _ (List.mem_of_getElem? (i := 26) rfl)), ⟨by decide +kernel, by decide +kernel, by decide +kernel⟩, _, _, rfl⟩
theorem msX7_125 : LkS RX7 125 yX7_isRecipe cX7_isRecipe 1 (some .boolean) 1 := ⟨(xwc23 _ (List.mem_of_getElem? (i := 27) rfl)), (xwc23 _ (List.mem_of_getElem? (i := 28) rfl)), (xwc2 _ (List.mem_of_getElem? (i := 10) rfl)), (xwc23 _ (List.mem_of_getElem? (i := 29) rfl)), ⟨by decide +kernel, by decide +kernel, by decide +kernel⟩⟩
theorem mvX7_128 : LkV RX7 128 yX7_readText cX7_readText 3 (some .int) 7 0 := ⟨(xwc24 _ (List.mem_of_getElem? (i := 0) rfl)), (xwc24 _ (List.mem_of_getElem? (i := 1) rfl)), (xwc1 _ (List.mem_of_getElem? (i := 4) rfl)), (xwc2 _ (List.mem_of_getElem? (i := 10) rfl)), (xwc24 _ (List.mem_of_getElem? (i := 2) rfl)), ⟨by decide +kernel, by decide +kernel, by decide +kernel⟩, _, _, rfl⟩
theorem mvX7_122 : LkV RX7 122 yX7_readPhase cX7_readPhase 6 (some .boolean) 7 1 := ⟨(xwc24 _ (List.mem_of_getElem? (i := 3) rfl)), (xwc24 _ (List.mem_of_getElem? (i := 4) rfl)), (xwc1 _ (List.mem_of_getElem? (i := 5) rfl)), (xwc2 _ (List.mem_of_getElem? (i := 10) rfl)), (xwc24 _ (List.mem_of_getElem? (i := 5) rfl)), ⟨by decide +kernel, by decide +kernel, by decide +kernel⟩, _, _, rfl⟩
theorem mvX7_104 : LkV RX7 104 yX7_here cX7_here 1 (some .int) 7 0 := ⟨(xwc24 _ (List.mem_of_getElem? (i := 6) rfl)), (xwc24 _ (List.mem_of_getElem? (i := 7) rfl)), (xwc1 _ (List.mem_of_getElem? (i := 6) rfl)), (xwc2 _ (List.mem_of_getElem? (i := 10) rfl)), (xwc24 _ (List.mem_of_getElem? (i := 8) rfl)), ⟨by decide +kernel, by decide +kernel, by decide +kernel⟩, _, _, rfl⟩
theorem msX7_111 : LkS RX7 111 yX7_kindBy cX7_kindBy 1 (some .int) 1 := ⟨(xwc24 _ (List.mem_of_getElem? (i := 9) rfl)), (xwc24 _ (List.mem_of_getElem? (i := 10) rfl)), (xwc2 _ (List.mem_of_getElem? (i := 10) rfl)), (xwc24 _ (List.mem_of_getElem? (i := 11) rfl)), ⟨by decide +kernel, by decide +kernel, by decide +kernel⟩⟩
theorem mvX7_107 : LkV RX7 107 yX7_isFault cX7_isFault 1 (some .boolean) 7 0 := ⟨(xwc24 _ (List.mem_of_getElem? (i := 12) rfl)), (xwc24 _ (List.mem_of_getElem? (i := 13) rfl)), (xwc1 _ (List.mem_of_getElem? (i := 7) rfl)), (xwc2 _ (List.mem_of_getElem? (i := 10) rfl)), (xwc24 _ (List.mem_of_getElem? (i := 14) rfl)), ⟨by decide +kernel, by decide +kernel, by decide +kernel⟩, _, _, rfl⟩
theorem mvX7_115 : LkV RX7 115 yX7_readNumber cX7_readNumber 4 (some .boolean) 7 2 := ⟨(xwc24 _ (List.mem_of_getElem? (i := 15) rfl)), (xwc24 _ (List.mem_of_getElem? (i := 16) rfl)), (xwc1 _ (List.mem_of_getElem? (i := 8) rfl)), (xwc2 _ (List.mem_of_getElem? (i := 10) rfl)), (xwc24 _ (List.mem_of_getElem? (i := 17) rfl)), ⟨by decide +kernel, by decide +kernel, by decide +kernel⟩, _, _, rfl⟩
theorem mvX7_119 : LkV RX7 119 yX7_takes cX7_takes 3 (some .boolean) 7 1 := ⟨(xwc24 _ (List.mem_of_getElem? (i := 18) rfl)), (xwc24 _ (List.mem_of_getElem? (i := 19) rfl)), (xwc1 _ (List.mem_of_getElem? (i := 9) rfl)), (xwc2 _ (List.mem_of_getElem? (i := 10) rfl)), (xwc24 _ (List.mem_of_getElem? (i := 20) rfl)), ⟨by decide +kernel, by decide +kernel, by decide +kernel⟩, _, _, rfl⟩
theorem mvL_46 : LkV RL 46 yX7_versions cX7_versions 2 (some .int) 7 1 := ⟨(xwc24 _ (List.mem_of_getElem? (i := 21) rfl)), (xwc24 _ (List.mem_of_getElem? (i := 22) rfl)), (xwc24 _ (List.mem_of_getElem? (i := 23) rfl)), (xwc2 _ (List.mem_of_getElem? (i := 10) rfl)), (xwc24 _ (List.mem_of_getElem? (i := 24) rfl)), ⟨by decide +kernel, by decide +kernel, by decide +kernel⟩, _, _, rfl⟩
theorem mvL_51 : LkV RL 51 yX7_phase cX7_phase 5 (some .int) 7 4 := ⟨(xwc24 _ (List.mem_of_getElem? (i := 25) rfl)), (xwc24 _ (List.mem_of_getElem? (i := 26) rfl)), (xwc24 _ (List.mem_of_getElem? (i := 27) rfl)), (xwc2 _ (List.mem_of_getElem? (i := 10) rfl)), (xwc24 _ (List.mem_of_getElem? (i := 28) rfl)), ⟨by decide +kernel, by decide +kernel, by decide +kernel⟩, _, _, rfl⟩
theorem mvX7_146 : LkV RX7 146 yX7_phasesOf cX7_phasesOf 3 (some .int) 7 2 := ⟨(xwc24 _ (List.mem_of_getElem? (i := 29) rfl)), (xwc25 _ (List.mem_of_getElem? (i := 0) rfl)), (xwc1 _ (List.mem_of_getElem? (i := 10) rfl)), (xwc2 _ (List.mem_of_getElem? (i := 10) rfl)), (xwc25 _ (List.mem_of_getElem? (i := 1) rfl)), ⟨by decide +kernel, by decide +kernel, by decide +kernel⟩, _, _, rfl⟩
theorem mvX7_85 : LkV RX7 85 yX7_phaseIn cX7_phaseIn 4 (some .int) 7 3 := ⟨(xwc25 _ (List.mem_of_getElem? (i := 2) rfl)), (xwc25 _ (List.mem_of_getElem? (i := 3) rfl)), (xwc1 _ (List.mem_of_getElem? (i := 11) rfl)), (xwc2 _ (List.mem_of_getElem? (i := 10) rfl)), (xwc25 _ (List.mem_of_getElem? (i := 4) rfl)), ⟨by decide +kernel, by decide +kernel, by decide +kernel⟩, _, _, rfl⟩
theorem msX7_149 : LkS RX7 149 yX7_partOf cX7_partOf 2 (some .int) 2 := ⟨(xwc25 _ (List.mem_of_getElem? (i := 5) rfl)), (xwc25 _ (List.mem_of_getElem? (i := 6) rfl)), (xwc2 _ (List.mem_of_getElem? (i := 10) rfl)), (xwc25 _ (List.mem_of_getElem? (i := 7) rfl)), ⟨by decide +kernel, by decide +kernel, by decide +kernel⟩⟩
theorem msX7_131 : LkS RX7 131 yX7_kindOf cX7_kindOf 1 (some .int) 1 := ⟨(xwc25 _ (List.mem_of_getElem? (i := 8) rfl)), (xwc25 _ (List.mem_of_getElem? (i := 9) rfl)), (xwc2 _ (List.mem_of_getElem? (i := 10) rfl)), (xwc25 _ (List.mem_of_getElem? (i := 10) rfl)), ⟨by decide +kernel, by decide +kernel, by decide +kernel⟩⟩
theorem msX7_134 : LkS RX7 134 yX7_durationOf cX7_durationOf 1 (some .int) 1 := ⟨(xwc25 _ (List.mem_of_getElem? (i := 11) rfl)), (xwc25 _ (List.mem_of_getElem? (i := 12) rfl)), (xwc2 _ (List.mem_of_getElem? (i := 10) rfl)), (xwc25 _ (List.mem_of_getElem? (i := 13) rfl)), ⟨by decide +kernel, by decide +kernel, by decide +kernel⟩⟩
theorem msX7_137 : LkS RX7 137 yX7_sharedOf cX7_sharedOf 1 (some .int) 1 := ⟨(xwc25 _ (List.mem_of_getElem? (i := 14) rfl)), (xwc25 _ (List.mem_of_getElem? (i := 15) rfl)), (xwc2 _ (List.mem_of_getElem? (i := 10) rfl)), (xwc25 _ (List.mem_of_getElem? (i := 16) rfl)), ⟨by decide +kernel, by decide +kernel, by decide +kernel⟩⟩
theorem msX7_140 : LkS RX7 140 yX7_yieldOf cX7_yieldOf 1 (some .int) 1 := ⟨(xwc25 _ (List.mem_of_getElem? (i := 17) rfl)), (xwc25 _ (List.mem_of_getElem? (i := 18) rfl)), (xwc2 _ (List.mem_of_getElem? (i := 10) rfl)), (xwc25 _ (List.mem_of_getElem? (i := 19) rfl)), ⟨by decide +kernel, by decide +kernel, by decide +kernel⟩⟩
theorem msX7_143 : LkS RX7 143 yX7_markOf cX7_markOf 1 (some .int) 1 := ⟨(xwc25 _ (List.mem_of_getElem? (i := 20) rfl)), (xwc25 _ (List.mem_of_getElem? (i := 21) rfl)), (xwc2 _ (List.mem_of_getElem? (i := 10) rfl)), (xwc25 _ (List.mem_of_getElem? (i := 22) rfl)), ⟨by decide +kernel, by decide +kernel, by decide +kernel⟩⟩
theorem mvL_55 : LkV RL 55 yX7_batch cX7_batch 7 (some .int) 7 4 := ⟨(xwc25 _ (List.mem_of_getElem? (i := 23) rfl)), (xwc25 _ (List.mem_of_getElem? (i := 24) rfl)), (xwc25 _ (List.mem_of_getElem? (i := 25) rfl)), (xwc2 _ (List.mem_of_getElem? (i := 10) rfl)), (xwc25 _ (List.mem_of_getElem? (i := 26) rfl)), ⟨by decide +kernel, by decide +kernel, by decide +kernel⟩, _, _, rfl⟩
theorem mvX7_152 : LkV RX7 152 yX7_isBatch cX7_isBatch 2 (some .boolean) 7 1 := ⟨(xwc25 _ (List.mem_of_getElem? (i := 27) rfl)), (xwc25 _ (List.mem_of_getElem? (i := 28) rfl)), (xwc1 _ (List.mem_of_getElem? (i := 12) rfl)), (xwc2 _ (List.mem_of_getElem? (i := 10) rfl)), (xwc25 _ (List.mem_of_getElem? (i := 29) rfl)), ⟨by decide +kernel, by decide +kernel, by decide +kernel⟩, _, _, rfl⟩
theorem msX7_155 : LkS RX7 155 yJxf58ca_floatToIntBits_5c35a cJxf58ca_floatToIntBits_5c35a 1 (some .int) 1 := ⟨(xwc26 _ (List.mem_of_getElem? (i := 0) rfl)), (xwc26 _ (List.mem_of_getElem? (i := 1) rfl)), (xwc2 _ (List.mem_of_getElem? (i := 12) rfl)), (xwc26 _ (List.mem_of_getElem? (i := 2) rfl)), ⟨by decide +kernel, by decide +kernel, by decide +kernel⟩⟩
theorem msJxf58ca_59 : LkS RJxf58ca 59 yJxf58ca_isNaN_12338 cJxf58ca_isNaN_12338 1 (some .boolean) 1 := ⟨(xwc26 _ (List.mem_of_getElem? (i := 3) rfl)), (xwc26 _ (List.mem_of_getElem? (i := 4) rfl)), (xwc2 _ (List.mem_of_getElem? (i := 12) rfl)), (xwc26 _ (List.mem_of_getElem? (i := 5) rfl)), ⟨by decide +kernel, by decide +kernel, by decide +kernel⟩⟩
theorem mvL_59 : LkV RL 59 yX7_start cX7_start 2 (some .int) 7 1 := ⟨(xwc26 _ (List.mem_of_getElem? (i := 10) rfl)), (xwc26 _ (List.mem_of_getElem? (i := 11) rfl)), (xwc26 _ (List.mem_of_getElem? (i := 12) rfl)), (xwc2 _ (List.mem_of_getElem? (i := 10) rfl)), (xwc26 _ (List.mem_of_getElem? (i := 13) rfl)), ⟨by decide +kernel, by decide +kernel, by decide +kernel⟩, _, _, rfl⟩
theorem mvX7_161 : LkV RX7 161 yX7_many cX7_many 4 (some .int) 7 1 := ⟨(xwc26 _ (List.mem_of_getElem? (i := 14) rfl)), (xwc26 _ (List.mem_of_getElem? (i := 15) rfl)), (xwc1 _ (List.mem_of_getElem? (i := 13) rfl)), (xwc2 _ (List.mem_of_getElem? (i := 10) rfl)), (xwc26 _ (List.mem_of_getElem? (i := 16) rfl)), ⟨by decide +kernel, by decide +kernel, by decide +kernel⟩, _, _, rfl⟩
theorem mvL_63 : LkV RL 63 yX7_hold cX7_hold 2 (some .int) 7 1 := ⟨(xwc26 _ (List.mem_of_getElem? (i := 17) rfl)), (xwc26 _ (List.mem_of_getElem? (i := 18) rfl)), (xwc26 _ (List.mem_of_getElem? (i := 19) rfl)), (xwc2 _ (List.mem_of_getElem? (i := 10) rfl)), (xwc26 _ (List.mem_of_getElem? (i := 20) rfl)), ⟨by decide +kernel, by decide +kernel, by decide +kernel⟩, _, _, rfl⟩
theorem mvL_67 : LkV RL 67 yX7_restart cX7_restart 3 (some .int) 7 1 := ⟨(xwc26 _ (List.mem_of_getElem? (i := 21) rfl)), (xwc26 _ (List.mem_of_getElem? (i := 22) rfl)), (xwc26 _ (List.mem_of_getElem? (i := 23) rfl)), (xwc2 _ (List.mem_of_getElem? (i := 10) rfl)), (xwc26 _ (List.mem_of_getElem? (i := 24) rfl)), ⟨by decide +kernel, by decide +kernel, by decide +kernel⟩, _, _, rfl⟩
theorem mvX7_164 : LkV RX7 164 yX7_phaseNow cX7_phaseNow 2 (some .int) 7 1 := ⟨(xwc26 _ (List.mem_of_getElem? (i := 25) rfl)), (xwc26 _ (List.mem_of_getElem? (i := 26) rfl)), (xwc1 _ (List.mem_of_getElem? (i := 14) rfl)), (xwc2 _ (List.mem_of_getElem? (i := 10) rfl)), (xwc26 _ (List.mem_of_getElem? (i := 27) rfl)), ⟨by decide +kernel, by decide +kernel, by decide +kernel⟩, _, _, rfl⟩
theorem mvX7_89 : LkV RX7 89 yX7_phaseAt cX7_phaseAt 3 (some .int) 7 2 := ⟨(xwc26 _ (List.mem_of_getElem? (i := 28) rfl)), (xwc26 _ (List.mem_of_getElem? (i := 29) rfl)), (xwc1 _ (List.mem_of_getElem? (i := 15) rfl)), (xwc2 _ (List.mem_of_getElem? (i := 10) rfl)), (xwc27 _ (List.mem_of_getElem? (i := 0) rfl)), ⟨by decide +kernel, by decide +kernel, by decide +kernel⟩, _, _, rfl⟩
theorem mvX7_167 : LkV RX7 167 yX7_left cX7_left 2 (some .int) 7 1 := ⟨(xwc27 _ (List.mem_of_getElem? (i := 1) rfl)), (xwc27 _ (List.mem_of_getElem? (i := 2) rfl)), (xwc1 _ (List.mem_of_getElem? (i := 16) rfl)), (xwc2 _ (List.mem_of_getElem? (i := 10) rfl)), (xwc27 _ (List.mem_of_getElem? (i := 3) rfl)), ⟨by decide +kernel, by decide +kernel, by decide +kernel⟩, _, _, rfl⟩
theorem mvL_71 : LkV RL 71 yX7_stop cX7_stop 2 (some .int) 7 1 := ⟨(xwc27 _ (List.mem_of_getElem? (i := 4) rfl)), (xwc27 _ (List.mem_of_getElem? (i := 5) rfl)), (xwc27 _ (List.mem_of_getElem? (i := 6) rfl)), (xwc2 _ (List.mem_of_getElem? (i := 10) rfl)), (xwc27 _ (List.mem_of_getElem? (i := 7) rfl)), ⟨by decide +kernel, by decide +kernel, by decide +kernel⟩, _, _, rfl⟩
theorem mvX7_170 : LkV RX7 170 yX7_endsBy cX7_endsBy 4 none 7 3 := ⟨(xwc27 _ (List.mem_of_getElem? (i := 8) rfl)), (xwc27 _ (List.mem_of_getElem? (i := 9) rfl)), (xwc1 _ (List.mem_of_getElem? (i := 17) rfl)), (xwc2 _ (List.mem_of_getElem? (i := 10) rfl)), (xwc27 _ (List.mem_of_getElem? (i := 10) rfl)), ⟨by decide +kernel, by decide +kernel, by decide +kernel⟩, _, _, rfl⟩
theorem mvX7_61 : LkV RX7 61 yX7_releaseUnit cX7_releaseUnit 3 none 7 1 := ⟨(xwc27 _ (List.mem_of_getElem? (i := 11) rfl)), (xwc27 _ (List.mem_of_getElem? (i := 12) rfl)), (xwc1 _ (List.mem_of_getElem? (i := 18) rfl)), (xwc2 _ (List.mem_of_getElem? (i := 10) rfl)), (xwc27 _ (List.mem_of_getElem? (i := 13) rfl)), ⟨by decide +kernel, by decide +kernel, by decide +kernel⟩, _, _, rfl⟩
theorem mvL_75 : LkV RL 75 yX7_abort cX7_abort 6 (some .int) 7 1 := ⟨(xwc27 _ (List.mem_of_getElem? (i := 14) rfl)), (xwc27 _ (List.mem_of_getElem? (i := 15) rfl)), (xwc27 _ (List.mem_of_getElem? (i := 16) rfl)), (xwc2 _ (List.mem_of_getElem? (i := 10) rfl)), (xwc27 _ (List.mem_of_getElem? (i := 17) rfl)), ⟨by decide +kernel, by decide +kernel, by decide +kernel⟩, _, _, rfl⟩
theorem mvL_79 : LkV RL 79 yX7_priority cX7_priority 4 (some .int) 7 2 := ⟨(xwc27 _ (List.mem_of_getElem? (i := 18) rfl)), (xwc27 _ (List.mem_of_getElem? (i := 19) rfl)), (xwc27 _ (List.mem_of_getElem? (i := 20) rfl)), (xwc2 _ (List.mem_of_getElem? (i := 10) rfl)), (xwc27 _ (List.mem_of_getElem? (i := 21) rfl)), ⟨by decide +kernel, by decide +kernel, by decide +kernel⟩, _, _, rfl⟩
theorem mvL_83 : LkV RL 83 yX7_batchInfo cX7_batchInfo 3 (some .int) 7 2 := ⟨(xwc27 _ (List.mem_of_getElem? (i := 22) rfl)), (xwc27 _ (List.mem_of_getElem? (i := 23) rfl)), (xwc27 _ (List.mem_of_getElem? (i := 24) rfl)), (xwc2 _ (List.mem_of_getElem? (i := 10) rfl)), (xwc27 _ (List.mem_of_getElem? (i := 25) rfl)), ⟨by decide +kernel, by decide +kernel, by decide +kernel⟩, _, _, rfl⟩
theorem mvX7_177 : LkV RX7 177 yX7_batchOf cX7_batchOf 3 (some .int) 7 2 := ⟨(xwc27 _ (List.mem_of_getElem? (i := 26) rfl)), (xwc27 _ (List.mem_of_getElem? (i := 27) rfl)), (xwc1 _ (List.mem_of_getElem? (i := 19) rfl)), (xwc2 _ (List.mem_of_getElem? (i := 10) rfl)), (xwc27 _ (List.mem_of_getElem? (i := 28) rfl)), ⟨by decide +kernel, by decide +kernel, by decide +kernel⟩, _, _, rfl⟩
theorem mvL_87 : LkV RL 87 yX7_waits cX7_waits 3 (some .int) 7 1 := ⟨(xwc28 _ (List.mem_of_getElem? (i := 2) rfl)), (xwc28 _ (List.mem_of_getElem? (i := 3) rfl)), (xwc28 _ (List.mem_of_getElem? (i := 4) rfl)), (xwc2 _ (List.mem_of_getElem? (i := 10) rfl)), (xwc28 _ (List.mem_of_getElem? (i := 5) rfl)), ⟨by decide +kernel, by decide +kernel, by decide +kernel⟩, _, _, rfl⟩
theorem mvX7_189 : LkV RX7 189 yX7_clean cX7_clean 2 none 7 0 := ⟨(xwc28 _ (List.mem_of_getElem? (i := 6) rfl)), (xwc28 _ (List.mem_of_getElem? (i := 7) rfl)), (xwc1 _ (List.mem_of_getElem? (i := 20) rfl)), (xwc2 _ (List.mem_of_getElem? (i := 10) rfl)), (xwc28 _ (List.mem_of_getElem? (i := 8) rfl)), ⟨by decide +kernel, by decide +kernel, by decide +kernel⟩, _, _, rfl⟩
theorem mvX7_192 : LkV RX7 192 yX7_reason cX7_reason 2 (some .int) 7 1 := ⟨(xwc28 _ (List.mem_of_getElem? (i := 9) rfl)), (xwc28 _ (List.mem_of_getElem? (i := 10) rfl)), (xwc1 _ (List.mem_of_getElem? (i := 21) rfl)), (xwc2 _ (List.mem_of_getElem? (i := 10) rfl)), (xwc28 _ (List.mem_of_getElem? (i := 11) rfl)), ⟨by decide +kernel, by decide +kernel, by decide +kernel⟩, _, _, rfl⟩
theorem mvX7_180 : LkV RX7 180 yX7_waitsForOther cX7_waitsForOther 3 (some .boolean) 7 1 := ⟨(xwc28 _ (List.mem_of_getElem? (i := 12) rfl)), (xwc28 _ (List.mem_of_getElem? (i := 13) rfl)), (xwc1 _ (List.mem_of_getElem? (i := 22) rfl)), (xwc2 _ (List.mem_of_getElem? (i := 10) rfl)), (xwc28 _ (List.mem_of_getElem? (i := 14) rfl)), ⟨by decide +kernel, by decide +kernel, by decide +kernel⟩, _, _, rfl⟩
theorem mvX7_183 : LkV RX7 183 yX7_unitFor cX7_unitFor 4 (some .int) 7 2 := ⟨(xwc28 _ (List.mem_of_getElem? (i := 15) rfl)), (xwc28 _ (List.mem_of_getElem? (i := 16) rfl)), (xwc1 _ (List.mem_of_getElem? (i := 23) rfl)), (xwc2 _ (List.mem_of_getElem? (i := 10) rfl)), (xwc28 _ (List.mem_of_getElem? (i := 17) rfl)), ⟨by decide +kernel, by decide +kernel, by decide +kernel⟩, _, _, rfl⟩
theorem mvX7_186 : LkV RX7 186 yX7_waitsForShared cX7_waitsForShared 3 (some .boolean) 7 1 := ⟨(xwc28 _ (List.mem_of_getElem? (i := 18) rfl)), (xwc28 _ (List.mem_of_getElem? (i := 19) rfl)), (xwc1 _ (List.mem_of_getElem? (i := 24) rfl)), (xwc2 _ (List.mem_of_getElem? (i := 10) rfl)), (xwc28 _ (List.mem_of_getElem? (i := 20) rfl)), ⟨by decide +kernel, by decide +kernel, by decide +kernel⟩, _, _, rfl⟩
theorem mvL_91 : LkV RL 91 yX7_inOrder cX7_inOrder 2 (some .int) 7 1 := ⟨(xwc28 _ (List.mem_of_getElem? (i := 21) rfl)), (xwc28 _ (List.mem_of_getElem? (i := 22) rfl)), (xwc28 _ (List.mem_of_getElem? (i := 23) rfl)), (xwc2 _ (List.mem_of_getElem? (i := 10) rfl)), (xwc28 _ (List.mem_of_getElem? (i := 24) rfl)), ⟨by decide +kernel, by decide +kernel, by decide +kernel⟩, _, _, rfl⟩
theorem mvX7_195 : LkV RX7 195 yX7_sort cX7_sort 4 (some .int) 7 0 := ⟨(xwc28 _ (List.mem_of_getElem? (i := 25) rfl)), (xwc28 _ (List.mem_of_getElem? (i := 26) rfl)), (xwc1 _ (List.mem_of_getElem? (i := 25) rfl)), (xwc2 _ (List.mem_of_getElem? (i := 10) rfl)), (xwc28 _ (List.mem_of_getElem? (i := 27) rfl)), ⟨by decide +kernel, by decide +kernel, by decide +kernel⟩, _, _, rfl⟩
theorem mvL_95 : LkV RL 95 yX7_run cX7_run 4 (some .int) 7 1 := ⟨(xwc28 _ (List.mem_of_getElem? (i := 28) rfl)), (xwc28 _ (List.mem_of_getElem? (i := 29) rfl)), (xwc29 _ (List.mem_of_getElem? (i := 0) rfl)), (xwc2 _ (List.mem_of_getElem? (i := 10) rfl)), (xwc29 _ (List.mem_of_getElem? (i := 1) rfl)), ⟨by decide +kernel, by decide +kernel, by decide +kernel⟩, _, _, rfl⟩
theorem mvX7_206 : LkV RX7 206 yX7_tick cX7_tick 3 none 7 0 := ⟨(xwc29 _ (List.mem_of_getElem? (i := 3) rfl)), (xwc29 _ (List.mem_of_getElem? (i := 4) rfl)), (xwc1 _ (List.mem_of_getElem? (i := 26) rfl)), (xwc2 _ (List.mem_of_getElem? (i := 10) rfl)), (xwc29 _ (List.mem_of_getElem? (i := 5) rfl)), ⟨by decide +kernel, by decide +kernel, by decide +kernel⟩, _, _, rfl⟩
theorem mvX7_202 : LkV RX7 202 yX7_work cX7_work 4 none 7 1 := ⟨(xwc29 _ (List.mem_of_getElem? (i := 6) rfl)), (xwc29 _ (List.mem_of_getElem? (i := 7) rfl)), (xwc1 _ (List.mem_of_getElem? (i := 27) rfl)), (xwc2 _ (List.mem_of_getElem? (i := 10) rfl)), (xwc29 _ (List.mem_of_getElem? (i := 8) rfl)), ⟨by decide +kernel, by decide +kernel, by decide +kernel⟩, _, _, rfl⟩
theorem mvX7_199 : LkV RX7 199 yX7_ends cX7_ends 5 none 7 1 := ⟨(xwc29 _ (List.mem_of_getElem? (i := 9) rfl)), (xwc29 _ (List.mem_of_getElem? (i := 10) rfl)), (xwc1 _ (List.mem_of_getElem? (i := 28) rfl)), (xwc2 _ (List.mem_of_getElem? (i := 10) rfl)), (xwc29 _ (List.mem_of_getElem? (i := 11) rfl)), ⟨by decide +kernel, by decide +kernel, by decide +kernel⟩, _, _, rfl⟩
theorem mvL_99 : LkV RL 99 yX7_ticksTo cX7_ticksTo 4 (some .int) 7 1 := ⟨(xwc29 _ (List.mem_of_getElem? (i := 13) rfl)), (xwc29 _ (List.mem_of_getElem? (i := 14) rfl)), (xwc29 _ (List.mem_of_getElem? (i := 15) rfl)), (xwc2 _ (List.mem_of_getElem? (i := 10) rfl)), (xwc29 _ (List.mem_of_getElem? (i := 16) rfl)), ⟨by decide +kernel, by decide +kernel, by decide +kernel⟩, _, _, rfl⟩
theorem mvL_103 : LkV RL 103 yX7_count cX7_count 2 (some .int) 7 1 := ⟨(xwc29 _ (List.mem_of_getElem? (i := 17) rfl)), (xwc29 _ (List.mem_of_getElem? (i := 18) rfl)), (xwc29 _ (List.mem_of_getElem? (i := 19) rfl)), (xwc2 _ (List.mem_of_getElem? (i := 10) rfl)), (xwc29 _ (List.mem_of_getElem? (i := 20) rfl)), ⟨by decide +kernel, by decide +kernel, by decide +kernel⟩, _, _, rfl⟩
theorem mvX7_209 : LkV RX7 209 yX7_freeUnits cX7_freeUnits 3 (some .int) 7 0 := ⟨(xwc29 _ (List.mem_of_getElem? (i := 21) rfl)), (xwc29 _ (List.mem_of_getElem? (i := 22) rfl)), (xwc1 _ (List.mem_of_getElem? (i := 29) rfl)), (xwc2 _ (List.mem_of_getElem? (i := 10) rfl)), (xwc29 _ (List.mem_of_getElem? (i := 23) rfl)), ⟨by decide +kernel, by decide +kernel, by decide +kernel⟩, _, _, rfl⟩
theorem mvX7_212 : LkV RX7 212 yX7_worked cX7_worked 3 (some .int) 7 0 := ⟨(xwc29 _ (List.mem_of_getElem? (i := 24) rfl)), (xwc29 _ (List.mem_of_getElem? (i := 25) rfl)), (xwc2 _ (List.mem_of_getElem? (i := 0) rfl)), (xwc2 _ (List.mem_of_getElem? (i := 10) rfl)), (xwc29 _ (List.mem_of_getElem? (i := 26) rfl)), ⟨by decide +kernel, by decide +kernel, by decide +kernel⟩, _, _, rfl⟩
theorem mvX7_215 : LkV RX7 215 yX7_freeShared cX7_freeShared 3 (some .int) 7 0 := ⟨(xwc29 _ (List.mem_of_getElem? (i := 27) rfl)), (xwc29 _ (List.mem_of_getElem? (i := 28) rfl)), (xwc2 _ (List.mem_of_getElem? (i := 1) rfl)), (xwc2 _ (List.mem_of_getElem? (i := 10) rfl)), (xwc29 _ (List.mem_of_getElem? (i := 29) rfl)), ⟨by decide +kernel, by decide +kernel, by decide +kernel⟩, _, _, rfl⟩
theorem mvL_107 : LkV RL 107 yX7_event cX7_event 3 (some .int) 7 2 := ⟨(xwc30 _ (List.mem_of_getElem? (i := 0) rfl)), (xwc30 _ (List.mem_of_getElem? (i := 1) rfl)), (xwc30 _ (List.mem_of_getElem? (i := 2) rfl)), (xwc2 _ (List.mem_of_getElem? (i := 10) rfl)), (xwc30 _ (List.mem_of_getElem? (i := 3) rfl)), ⟨by decide +kernel, by decide +kernel, by decide +kernel⟩, _, _, rfl⟩
theorem mvL_112 : LkV RL 112 yX7_undo cX7_undo 1 (some .int) 7 0 := ⟨(xwc30 _ (List.mem_of_getElem? (i := 4) rfl)), (xwc30 _ (List.mem_of_getElem? (i := 5) rfl)), (xwc30 _ (List.mem_of_getElem? (i := 6) rfl)), (xwc2 _ (List.mem_of_getElem? (i := 10) rfl)), (xwc30 _ (List.mem_of_getElem? (i := 7) rfl)), ⟨by decide +kernel, by decide +kernel, by decide +kernel⟩, _, _, rfl⟩
theorem mvL_116 : LkV RL 116 yX7_type cX7_type 2 (some .int) 7 1 := ⟨(xwc30 _ (List.mem_of_getElem? (i := 8) rfl)), (xwc30 _ (List.mem_of_getElem? (i := 9) rfl)), (xwc30 _ (List.mem_of_getElem? (i := 10) rfl)), (xwc2 _ (List.mem_of_getElem? (i := 10) rfl)), (xwc30 _ (List.mem_of_getElem? (i := 11) rfl)), ⟨by decide +kernel, by decide +kernel, by decide +kernel⟩, _, _, rfl⟩
theorem mvL_120 : LkV RL 120 yX7_clearText cX7_clearText 2 (some .int) 7 0 := ⟨(xwc30 _ (List.mem_of_getElem? (i := 12) rfl)), (xwc30 _ (List.mem_of_getElem? (i := 13) rfl)), (xwc30 _ (List.mem_of_getElem? (i := 14) rfl)), (xwc2 _ (List.mem_of_getElem? (i := 10) rfl)), (xwc30 _ (List.mem_of_getElem? (i := 15) rfl)), ⟨by decide +kernel, by decide +kernel, by decide +kernel⟩, _, _, rfl⟩
theorem mvL_124 : LkV RL 124 yX7_fault cX7_fault 2 (some .int) 7 1 := ⟨(xwc30 _ (List.mem_of_getElem? (i := 16) rfl)), (xwc30 _ (List.mem_of_getElem? (i := 17) rfl)), (xwc30 _ (List.mem_of_getElem? (i := 18) rfl)), (xwc2 _ (List.mem_of_getElem? (i := 10) rfl)), (xwc30 _ (List.mem_of_getElem? (i := 19) rfl)), ⟨by decide +kernel, by decide +kernel, by decide +kernel⟩, _, _, rfl⟩
theorem cnL_7 : LkN RL 7 6 := ⟨RX6, TX6, 6, tyX6, rfl, xlay6, tyX6_ok, (xwc2 _ (List.mem_of_getElem? (i := 13) rfl)), (xwc2 _ (List.mem_of_getElem? (i := 14) rfl)), (xwc2 _ (List.mem_of_getElem? (i := 3) rfl))⟩
theorem cnX6_7 : LkN RX6 7 1 := ⟨RX1, TX1, 2, tyX1, rfl, xlay1, tyX1_ok, (xwc2 _ (List.mem_of_getElem? (i := 21) rfl)), (xwc2 _ (List.mem_of_getElem? (i := 22) rfl)), (xwc2 _ (List.mem_of_getElem? (i := 4) rfl))⟩
theorem caX1_15 : Cond.classLink RX1 15 "[[I" ∈ xw := (xwc2 _ (List.mem_of_getElem? (i := 26) rfl))
theorem cnX6_16 : LkN RX6 16 4 := ⟨RX4, TX4, 7, tyX4, rfl, xlay4, tyX4_ok, (xwc3 _ (List.mem_of_getElem? (i := 4) rfl)), (xwc3 _ (List.mem_of_getElem? (i := 5) rfl)), (xwc2 _ (List.mem_of_getElem? (i := 5) rfl))⟩
theorem caX4_15 : Cond.classLink RX4 15 "[[I" ∈ xw := (xwc3 _ (List.mem_of_getElem? (i := 9) rfl))
theorem cnX6_23 : LkN RX6 23 3 := ⟨RX3, TX3, 12, tyX3, rfl, xlay3, tyX3_ok, (xwc4 _ (List.mem_of_getElem? (i := 0) rfl)), (xwc4 _ (List.mem_of_getElem? (i := 1) rfl)), (xwc2 _ (List.mem_of_getElem? (i := 6) rfl))⟩
theorem cnX3_9 : LkN RX3 9 5 := ⟨RX5, TX5, 6, tyX5, rfl, xlay5, tyX5_ok, (xwc4 _ (List.mem_of_getElem? (i := 6) rfl)), (xwc4 _ (List.mem_of_getElem? (i := 24) rfl)), (xwc2 _ (List.mem_of_getElem? (i := 8) rfl))⟩
theorem cnX3_17 : LkN RX3 17 0 := ⟨RX0, TX0, 10, tyX0, rfl, xlay0, tyX0_ok, (xwc4 _ (List.mem_of_getElem? (i := 7) rfl)), (xwc5 _ (List.mem_of_getElem? (i := 22) rfl)), (xwc2 _ (List.mem_of_getElem? (i := 9) rfl))⟩
theorem cnX3_30 : LkN RX3 30 2 := ⟨RX2, TX2, 5, tyX2, rfl, xlay2, tyX2_ok, (xwc4 _ (List.mem_of_getElem? (i := 8) rfl)), (xwc4 _ (List.mem_of_getElem? (i := 9) rfl)), (xwc2 _ (List.mem_of_getElem? (i := 7) rfl))⟩
theorem ckX6_272 : Cond.constantFloat RX6 272 (1258291200) ∈ xw := (xwc17 _ (List.mem_of_getElem? (i := 7) rfl))
theorem ckX6_233 : Cond.constant RX6 233 (50000) ∈ xw := (xwc18 _ (List.mem_of_getElem? (i := 9) rfl))
theorem ckX3_205 : Cond.constantFloat RX3 205 (1120403456) ∈ xw := (xwc19 _ (List.mem_of_getElem? (i := 0) rfl))
theorem cnL_10 : LkN RL 10 7 := ⟨RX7, TX7, 11, tyX7, rfl, xlay7, tyX7_ok, (xwc20 _ (List.mem_of_getElem? (i := 19) rfl)), (xwc20 _ (List.mem_of_getElem? (i := 20) rfl)), (xwc2 _ (List.mem_of_getElem? (i := 10) rfl))⟩
theorem ckJxf58ca_77 : Cond.constant RJxf58ca 77 (2143289344) ∈ xw := (xwc26 _ (List.mem_of_getElem? (i := 9) rfl))
theorem ckX7_205 : Cond.constant RX7 205 (50000) ∈ xw := (xwc29 _ (List.mem_of_getElem? (i := 2) rfl))
theorem ckX7_198 : Cond.constantFloat RX7 198 (1120403456) ∈ xw := (xwc29 _ (List.mem_of_getElem? (i := 12) rfl))
end
section
theorem dX0_init_0 : decode cX0_init 0 = .ok (.aload_n 0, 1) := by decide +kernel
theorem dX0_init_1 : decode cX0_init 1 = .ok (.invokespecial 3, 3) := by decide +kernel
theorem dX0_init_4 : decode cX0_init 4 = .ok (.return_, 1) := by decide +kernel
theorem dX0_reset_0 : decode cX0_reset 0 = .ok (.aload_n 0, 1) := by decide +kernel
theorem dX0_reset_1 : decode cX0_reset 1 = .ok (.iload_n 1, 1) := by decide +kernel
theorem dX0_reset_2 : decode cX0_reset 2 = .ok (.putfield 9, 3) := by decide +kernel
theorem dX0_reset_5 : decode cX0_reset 5 = .ok (.aload_n 0, 1) := by decide +kernel
theorem dX0_reset_6 : decode cX0_reset 6 = .ok (.iload_n 2, 1) := by decide +kernel
theorem dX0_reset_7 : decode cX0_reset 7 = .ok (.putfield 15, 3) := by decide +kernel
theorem dX0_reset_10 : decode cX0_reset 10 = .ok (.aload_n 0, 1) := by decide +kernel
theorem dX0_reset_11 : decode cX0_reset 11 = .ok (.iload_n 3, 1) := by decide +kernel
theorem dX0_reset_12 : decode cX0_reset 12 = .ok (.putfield 18, 3) := by decide +kernel
theorem dX0_reset_15 : decode cX0_reset 15 = .ok (.aload_n 0, 1) := by decide +kernel
theorem dX0_reset_16 : decode cX0_reset 16 = .ok (.iload 4, 2) := by decide +kernel
theorem dX0_reset_18 : decode cX0_reset 18 = .ok (.putfield 21, 3) := by decide +kernel
theorem dX0_reset_21 : decode cX0_reset 21 = .ok (.aload_n 0, 1) := by decide +kernel
theorem dX0_reset_22 : decode cX0_reset 22 = .ok (.iload 5, 2) := by decide +kernel
theorem dX0_reset_24 : decode cX0_reset 24 = .ok (.putfield 24, 3) := by decide +kernel
theorem dX0_reset_27 : decode cX0_reset 27 = .ok (.aload_n 0, 1) := by decide +kernel
theorem dX0_reset_28 : decode cX0_reset 28 = .ok (.iconst 0, 1) := by decide +kernel
theorem dX0_reset_29 : decode cX0_reset 29 = .ok (.putfield 27, 3) := by decide +kernel
theorem dX0_reset_32 : decode cX0_reset 32 = .ok (.aload_n 0, 1) := by decide +kernel
theorem dX0_reset_33 : decode cX0_reset 33 = .ok (.iconst 0, 1) := by decide +kernel
theorem dX0_reset_34 : decode cX0_reset 34 = .ok (.putfield 30, 3) := by decide +kernel
theorem dX0_reset_37 : decode cX0_reset 37 = .ok (.aload_n 0, 1) := by decide +kernel
theorem dX0_reset_38 : decode cX0_reset 38 = .ok (.iconst 0, 1) := by decide +kernel
theorem dX0_reset_39 : decode cX0_reset 39 = .ok (.putfield 33, 3) := by decide +kernel
theorem dX0_reset_42 : decode cX0_reset 42 = .ok (.aload_n 0, 1) := by decide +kernel
theorem dX0_reset_43 : decode cX0_reset 43 = .ok (.iconst (-1), 1) := by decide +kernel
theorem dX0_reset_44 : decode cX0_reset 44 = .ok (.putfield 36, 3) := by decide +kernel
theorem dX0_reset_47 : decode cX0_reset 47 = .ok (.aload_n 0, 1) := by decide +kernel
theorem dX0_reset_48 : decode cX0_reset 48 = .ok (.iload_n 3, 1) := by decide +kernel
theorem dX0_reset_49 : decode cX0_reset 49 = .ok (.i2f, 1) := by decide +kernel
theorem dX0_reset_50 : decode cX0_reset 50 = .ok (.putfield 39, 3) := by decide +kernel
theorem dX0_reset_53 : decode cX0_reset 53 = .ok (.return_, 1) := by decide +kernel
theorem dX0_copyFrom_0 : decode cX0_copyFrom 0 = .ok (.aload_n 0, 1) := by decide +kernel
theorem dX0_copyFrom_1 : decode cX0_copyFrom 1 = .ok (.aload_n 1, 1) := by decide +kernel
theorem dX0_copyFrom_2 : decode cX0_copyFrom 2 = .ok (.getfield 9, 3) := by decide +kernel
theorem dX0_copyFrom_5 : decode cX0_copyFrom 5 = .ok (.putfield 9, 3) := by decide +kernel
theorem dX0_copyFrom_8 : decode cX0_copyFrom 8 = .ok (.aload_n 0, 1) := by decide +kernel
theorem dX0_copyFrom_9 : decode cX0_copyFrom 9 = .ok (.aload_n 1, 1) := by decide +kernel
theorem dX0_copyFrom_10 : decode cX0_copyFrom 10 = .ok (.getfield 15, 3) := by decide +kernel
theorem dX0_copyFrom_13 : decode cX0_copyFrom 13 = .ok (.putfield 15, 3) := by decide +kernel
theorem dX0_copyFrom_16 : decode cX0_copyFrom 16 = .ok (.aload_n 0, 1) := by decide +kernel
theorem dX0_copyFrom_17 : decode cX0_copyFrom 17 = .ok (.aload_n 1, 1) := by decide +kernel
theorem dX0_copyFrom_18 : decode cX0_copyFrom 18 = .ok (.getfield 18, 3) := by decide +kernel
theorem dX0_copyFrom_21 : decode cX0_copyFrom 21 = .ok (.putfield 18, 3) := by decide +kernel
theorem dX0_copyFrom_24 : decode cX0_copyFrom 24 = .ok (.aload_n 0, 1) := by decide +kernel
theorem dX0_copyFrom_25 : decode cX0_copyFrom 25 = .ok (.aload_n 1, 1) := by decide +kernel
theorem dX0_copyFrom_26 : decode cX0_copyFrom 26 = .ok (.getfield 21, 3) := by decide +kernel
theorem dX0_copyFrom_29 : decode cX0_copyFrom 29 = .ok (.putfield 21, 3) := by decide +kernel
theorem dX0_copyFrom_32 : decode cX0_copyFrom 32 = .ok (.aload_n 0, 1) := by decide +kernel
theorem dX0_copyFrom_33 : decode cX0_copyFrom 33 = .ok (.aload_n 1, 1) := by decide +kernel
theorem dX0_copyFrom_34 : decode cX0_copyFrom 34 = .ok (.getfield 24, 3) := by decide +kernel
theorem dX0_copyFrom_37 : decode cX0_copyFrom 37 = .ok (.putfield 24, 3) := by decide +kernel
theorem dX0_copyFrom_40 : decode cX0_copyFrom 40 = .ok (.aload_n 0, 1) := by decide +kernel
theorem dX0_copyFrom_41 : decode cX0_copyFrom 41 = .ok (.aload_n 1, 1) := by decide +kernel
theorem dX0_copyFrom_42 : decode cX0_copyFrom 42 = .ok (.getfield 27, 3) := by decide +kernel
theorem dX0_copyFrom_45 : decode cX0_copyFrom 45 = .ok (.putfield 27, 3) := by decide +kernel
theorem dX0_copyFrom_48 : decode cX0_copyFrom 48 = .ok (.aload_n 0, 1) := by decide +kernel
theorem dX0_copyFrom_49 : decode cX0_copyFrom 49 = .ok (.aload_n 1, 1) := by decide +kernel
theorem dX0_copyFrom_50 : decode cX0_copyFrom 50 = .ok (.getfield 30, 3) := by decide +kernel
theorem dX0_copyFrom_53 : decode cX0_copyFrom 53 = .ok (.putfield 30, 3) := by decide +kernel
theorem dX0_copyFrom_56 : decode cX0_copyFrom 56 = .ok (.aload_n 0, 1) := by decide +kernel
theorem dX0_copyFrom_57 : decode cX0_copyFrom 57 = .ok (.aload_n 1, 1) := by decide +kernel
theorem dX0_copyFrom_58 : decode cX0_copyFrom 58 = .ok (.getfield 33, 3) := by decide +kernel
theorem dX0_copyFrom_61 : decode cX0_copyFrom 61 = .ok (.putfield 33, 3) := by decide +kernel
theorem dX0_copyFrom_64 : decode cX0_copyFrom 64 = .ok (.aload_n 0, 1) := by decide +kernel
theorem dX0_copyFrom_65 : decode cX0_copyFrom 65 = .ok (.aload_n 1, 1) := by decide +kernel
theorem dX0_copyFrom_66 : decode cX0_copyFrom 66 = .ok (.getfield 36, 3) := by decide +kernel
theorem dX0_copyFrom_69 : decode cX0_copyFrom 69 = .ok (.putfield 36, 3) := by decide +kernel
theorem dX0_copyFrom_72 : decode cX0_copyFrom 72 = .ok (.aload_n 0, 1) := by decide +kernel
theorem dX0_copyFrom_73 : decode cX0_copyFrom 73 = .ok (.aload_n 1, 1) := by decide +kernel
theorem dX0_copyFrom_74 : decode cX0_copyFrom 74 = .ok (.getfield 39, 3) := by decide +kernel
theorem dX0_copyFrom_77 : decode cX0_copyFrom 77 = .ok (.putfield 39, 3) := by decide +kernel
theorem dX0_copyFrom_80 : decode cX0_copyFrom 80 = .ok (.return_, 1) := by decide +kernel
theorem dX0_isActive_0 : decode cX0_isActive 0 = .ok (.aload_n 0, 1) := by decide +kernel
theorem dX0_isActive_1 : decode cX0_isActive 1 = .ok (.getfield 27, 3) := by decide +kernel
theorem dX0_isActive_4 : decode cX0_isActive 4 = .ok (.iconst 1, 1) := by decide +kernel
theorem dX0_isActive_5 : decode cX0_isActive 5 = .ok (.if_icmp .eq 11, 3) := by decide +kernel
theorem dX0_isActive_8 : decode cX0_isActive 8 = .ok (.aload_n 0, 1) := by decide +kernel
theorem dX0_isActive_9 : decode cX0_isActive 9 = .ok (.getfield 27, 3) := by decide +kernel
theorem dX0_isActive_12 : decode cX0_isActive 12 = .ok (.iconst 3, 1) := by decide +kernel
theorem dX0_isActive_13 : decode cX0_isActive 13 = .ok (.if_icmp .ne 7, 3) := by decide +kernel
theorem dX0_isActive_16 : decode cX0_isActive 16 = .ok (.iconst 1, 1) := by decide +kernel
theorem dX0_isActive_17 : decode cX0_isActive 17 = .ok (.goto 4, 3) := by decide +kernel
theorem dX0_isActive_20 : decode cX0_isActive 20 = .ok (.iconst 0, 1) := by decide +kernel
theorem dX0_isActive_21 : decode cX0_isActive 21 = .ok (.ireturn, 1) := by decide +kernel
theorem dX0_isAtEnd_0 : decode cX0_isAtEnd 0 = .ok (.aload_n 0, 1) := by decide +kernel
theorem dX0_isAtEnd_1 : decode cX0_isAtEnd 1 = .ok (.getfield 27, 3) := by decide +kernel
theorem dX0_isAtEnd_4 : decode cX0_isAtEnd 4 = .ok (.iconst 4, 1) := by decide +kernel
theorem dX0_isAtEnd_5 : decode cX0_isAtEnd 5 = .ok (.if_icmp .eq 20, 3) := by decide +kernel
theorem dX0_isAtEnd_8 : decode cX0_isAtEnd 8 = .ok (.aload_n 0, 1) := by decide +kernel
theorem dX0_isAtEnd_9 : decode cX0_isAtEnd 9 = .ok (.getfield 27, 3) := by decide +kernel
theorem dX0_isAtEnd_12 : decode cX0_isAtEnd 12 = .ok (.iconst 5, 1) := by decide +kernel
theorem dX0_isAtEnd_13 : decode cX0_isAtEnd 13 = .ok (.if_icmp .eq 12, 3) := by decide +kernel
theorem dX0_isAtEnd_16 : decode cX0_isAtEnd 16 = .ok (.aload_n 0, 1) := by decide +kernel
theorem dX0_isAtEnd_17 : decode cX0_isAtEnd 17 = .ok (.getfield 27, 3) := by decide +kernel
theorem dX0_isAtEnd_20 : decode cX0_isAtEnd 20 = .ok (.bipush 6, 2) := by decide +kernel
theorem dX0_isAtEnd_22 : decode cX0_isAtEnd 22 = .ok (.if_icmp .ne 7, 3) := by decide +kernel
theorem dX0_isAtEnd_25 : decode cX0_isAtEnd 25 = .ok (.iconst 1, 1) := by decide +kernel
theorem dX0_isAtEnd_26 : decode cX0_isAtEnd 26 = .ok (.goto 4, 3) := by decide +kernel
theorem dX0_isAtEnd_29 : decode cX0_isAtEnd 29 = .ok (.iconst 0, 1) := by decide +kernel
theorem dX0_isAtEnd_30 : decode cX0_isAtEnd 30 = .ok (.ireturn, 1) := by decide +kernel
theorem dX0_isUnderWay_0 : decode cX0_isUnderWay 0 = .ok (.aload_n 0, 1) := by decide +kernel
theorem dX0_isUnderWay_1 : decode cX0_isUnderWay 1 = .ok (.getfield 33, 3) := by decide +kernel
theorem dX0_isUnderWay_4 : decode cX0_isUnderWay 4 = .ok (.ifCond .le 7, 3) := by decide +kernel
theorem dX0_isUnderWay_7 : decode cX0_isUnderWay 7 = .ok (.iconst 1, 1) := by decide +kernel
theorem dX0_isUnderWay_8 : decode cX0_isUnderWay 8 = .ok (.goto 4, 3) := by decide +kernel
theorem dX0_isUnderWay_11 : decode cX0_isUnderWay 11 = .ok (.iconst 0, 1) := by decide +kernel
theorem dX0_isUnderWay_12 : decode cX0_isUnderWay 12 = .ok (.ireturn, 1) := by decide +kernel
theorem dX0_hasBegun_0 : decode cX0_hasBegun 0 = .ok (.aload_n 0, 1) := by decide +kernel
theorem dX0_hasBegun_1 : decode cX0_hasBegun 1 = .ok (.getfield 30, 3) := by decide +kernel
theorem dX0_hasBegun_4 : decode cX0_hasBegun 4 = .ok (.ifCond .gt 10, 3) := by decide +kernel
theorem dX0_hasBegun_7 : decode cX0_hasBegun 7 = .ok (.aload_n 0, 1) := by decide +kernel
theorem dX0_hasBegun_8 : decode cX0_hasBegun 8 = .ok (.getfield 33, 3) := by decide +kernel
theorem dX0_hasBegun_11 : decode cX0_hasBegun 11 = .ok (.ifCond .le 7, 3) := by decide +kernel
theorem dX0_hasBegun_14 : decode cX0_hasBegun 14 = .ok (.iconst 1, 1) := by decide +kernel
theorem dX0_hasBegun_15 : decode cX0_hasBegun 15 = .ok (.goto 4, 3) := by decide +kernel
theorem dX0_hasBegun_18 : decode cX0_hasBegun 18 = .ok (.iconst 0, 1) := by decide +kernel
theorem dX0_hasBegun_19 : decode cX0_hasBegun 19 = .ok (.ireturn, 1) := by decide +kernel
theorem dX1_init_0 : decode cX1_init 0 = .ok (.aload_n 0, 1) := by decide +kernel
theorem dX1_init_1 : decode cX1_init 1 = .ok (.invokespecial 3, 3) := by decide +kernel
theorem dX1_init_4 : decode cX1_init 4 = .ok (.aload_n 0, 1) := by decide +kernel
theorem dX1_init_5 : decode cX1_init 5 = .ok (.bipush 54, 2) := by decide +kernel
theorem dX1_init_7 : decode cX1_init 7 = .ok (.newarray .int, 2) := by decide +kernel
theorem dX1_init_9 : decode cX1_init 9 = .ok (.putfield 9, 3) := by decide +kernel
theorem dX1_init_12 : decode cX1_init 12 = .ok (.aload_n 0, 1) := by decide +kernel
theorem dX1_init_13 : decode cX1_init 13 = .ok (.iconst 5, 1) := by decide +kernel
theorem dX1_init_14 : decode cX1_init 14 = .ok (.sipush 432, 3) := by decide +kernel
theorem dX1_init_17 : decode cX1_init 17 = .ok (.multianewarray 15 2, 4) := by decide +kernel
theorem dX1_init_21 : decode cX1_init 21 = .ok (.putfield 17, 3) := by decide +kernel
theorem dX1_init_24 : decode cX1_init 24 = .ok (.return_, 1) := by decide +kernel
theorem dX1_pageOf_0 : decode cX1_pageOf 0 = .ok (.iload_n 0, 1) := by decide +kernel
theorem dX1_pageOf_1 : decode cX1_pageOf 1 = .ok (.bipush 9, 2) := by decide +kernel
theorem dX1_pageOf_3 : decode cX1_pageOf 3 = .ok (.imul, 1) := by decide +kernel
theorem dX1_pageOf_4 : decode cX1_pageOf 4 = .ok (.iload_n 1, 1) := by decide +kernel
theorem dX1_pageOf_5 : decode cX1_pageOf 5 = .ok (.iadd, 1) := by decide +kernel
theorem dX1_pageOf_6 : decode cX1_pageOf 6 = .ok (.iconst 1, 1) := by decide +kernel
theorem dX1_pageOf_7 : decode cX1_pageOf 7 = .ok (.isub, 1) := by decide +kernel
theorem dX1_pageOf_8 : decode cX1_pageOf 8 = .ok (.ireturn, 1) := by decide +kernel
theorem dX1_write_0 : decode cX1_write 0 = .ok (.aload_n 0, 1) := by decide +kernel
theorem dX1_write_1 : decode cX1_write 1 = .ok (.getfield 9, 3) := by decide +kernel
theorem dX1_write_4 : decode cX1_write 4 = .ok (.iload_n 1, 1) := by decide +kernel
theorem dX1_write_5 : decode cX1_write 5 = .ok (.aload_n 2, 1) := by decide +kernel
theorem dX1_write_6 : decode cX1_write 6 = .ok (.getfield 20, 3) := by decide +kernel
theorem dX1_write_9 : decode cX1_write 9 = .ok (.iastore, 1) := by decide +kernel
theorem dX1_write_10 : decode cX1_write 10 = .ok (.iconst 0, 1) := by decide +kernel
theorem dX1_write_11 : decode cX1_write 11 = .ok (.istore_n 3, 1) := by decide +kernel
theorem dX1_write_12 : decode cX1_write 12 = .ok (.iload_n 3, 1) := by decide +kernel
theorem dX1_write_13 : decode cX1_write 13 = .ok (.iconst 5, 1) := by decide +kernel
theorem dX1_write_14 : decode cX1_write 14 = .ok (.if_icmp .ge 31, 3) := by decide +kernel
theorem dX1_write_17 : decode cX1_write 17 = .ok (.aload_n 2, 1) := by decide +kernel
theorem dX1_write_18 : decode cX1_write 18 = .ok (.getfield 26, 3) := by decide +kernel
theorem dX1_write_21 : decode cX1_write 21 = .ok (.iload_n 3, 1) := by decide +kernel
theorem dX1_write_22 : decode cX1_write 22 = .ok (.aaload, 1) := by decide +kernel
theorem dX1_write_23 : decode cX1_write 23 = .ok (.iconst 0, 1) := by decide +kernel
theorem dX1_write_24 : decode cX1_write 24 = .ok (.aload_n 0, 1) := by decide +kernel
theorem dX1_write_25 : decode cX1_write 25 = .ok (.getfield 17, 3) := by decide +kernel
theorem dX1_write_28 : decode cX1_write 28 = .ok (.iload_n 3, 1) := by decide +kernel
theorem dX1_write_29 : decode cX1_write 29 = .ok (.aaload, 1) := by decide +kernel
theorem dX1_write_30 : decode cX1_write 30 = .ok (.iload_n 1, 1) := by decide +kernel
theorem dX1_write_31 : decode cX1_write 31 = .ok (.bipush 8, 2) := by decide +kernel
theorem dX1_write_33 : decode cX1_write 33 = .ok (.imul, 1) := by decide +kernel
theorem dX1_write_34 : decode cX1_write 34 = .ok (.bipush 8, 2) := by decide +kernel
theorem dX1_write_36 : decode cX1_write 36 = .ok (.invokestatic 27, 3) := by decide +kernel
theorem dX1_write_39 : decode cX1_write 39 = .ok (.iinc 3 1, 3) := by decide +kernel
theorem dX1_write_42 : decode cX1_write 42 = .ok (.goto (-30), 3) := by decide +kernel
theorem dX1_write_45 : decode cX1_write 45 = .ok (.return_, 1) := by decide +kernel
theorem dX1_find_0 : decode cX1_find 0 = .ok (.aload_n 0, 1) := by decide +kernel
theorem dX1_find_1 : decode cX1_find 1 = .ok (.getfield 17, 3) := by decide +kernel
theorem dX1_find_4 : decode cX1_find 4 = .ok (.iload_n 3, 1) := by decide +kernel
theorem dX1_find_5 : decode cX1_find 5 = .ok (.aaload, 1) := by decide +kernel
theorem dX1_find_6 : decode cX1_find 6 = .ok (.iload_n 1, 1) := by decide +kernel
theorem dX1_find_7 : decode cX1_find 7 = .ok (.bipush 8, 2) := by decide +kernel
theorem dX1_find_9 : decode cX1_find 9 = .ok (.imul, 1) := by decide +kernel
theorem dX1_find_10 : decode cX1_find 10 = .ok (.iload_n 2, 1) := by decide +kernel
theorem dX1_find_11 : decode cX1_find 11 = .ok (.iadd, 1) := by decide +kernel
theorem dX1_find_12 : decode cX1_find 12 = .ok (.iaload, 1) := by decide +kernel
theorem dX1_find_13 : decode cX1_find 13 = .ok (.ireturn, 1) := by decide +kernel
theorem dX2_init_0 : decode cX2_init 0 = .ok (.aload_n 0, 1) := by decide +kernel
theorem dX2_init_1 : decode cX2_init 1 = .ok (.invokespecial 3, 3) := by decide +kernel
theorem dX2_init_4 : decode cX2_init 4 = .ok (.aload_n 0, 1) := by decide +kernel
theorem dX2_init_5 : decode cX2_init 5 = .ok (.bipush 40, 2) := by decide +kernel
theorem dX2_init_7 : decode cX2_init 7 = .ok (.newarray .int, 2) := by decide +kernel
theorem dX2_init_9 : decode cX2_init 9 = .ok (.putfield 9, 3) := by decide +kernel
theorem dX2_init_12 : decode cX2_init 12 = .ok (.aload_n 0, 1) := by decide +kernel
theorem dX2_init_13 : decode cX2_init 13 = .ok (.bipush 40, 2) := by decide +kernel
theorem dX2_init_15 : decode cX2_init 15 = .ok (.newarray .int, 2) := by decide +kernel
theorem dX2_init_17 : decode cX2_init 17 = .ok (.putfield 15, 3) := by decide +kernel
theorem dX2_init_20 : decode cX2_init 20 = .ok (.aload_n 0, 1) := by decide +kernel
theorem dX2_init_21 : decode cX2_init 21 = .ok (.bipush 40, 2) := by decide +kernel
theorem dX2_init_23 : decode cX2_init 23 = .ok (.newarray .int, 2) := by decide +kernel
theorem dX2_init_25 : decode cX2_init 25 = .ok (.putfield 18, 3) := by decide +kernel
theorem dX2_init_28 : decode cX2_init 28 = .ok (.return_, 1) := by decide +kernel
theorem dX2_add_0 : decode cX2_add 0 = .ok (.aload_n 0, 1) := by decide +kernel
theorem dX2_add_1 : decode cX2_add 1 = .ok (.getfield 9, 3) := by decide +kernel
theorem dX2_add_4 : decode cX2_add 4 = .ok (.aload_n 0, 1) := by decide +kernel
theorem dX2_add_5 : decode cX2_add 5 = .ok (.getfield 21, 3) := by decide +kernel
theorem dX2_add_8 : decode cX2_add 8 = .ok (.iload_n 1, 1) := by decide +kernel
theorem dX2_add_9 : decode cX2_add 9 = .ok (.iastore, 1) := by decide +kernel
theorem dX2_add_10 : decode cX2_add 10 = .ok (.aload_n 0, 1) := by decide +kernel
theorem dX2_add_11 : decode cX2_add 11 = .ok (.getfield 15, 3) := by decide +kernel
theorem dX2_add_14 : decode cX2_add 14 = .ok (.aload_n 0, 1) := by decide +kernel
theorem dX2_add_15 : decode cX2_add 15 = .ok (.getfield 21, 3) := by decide +kernel
theorem dX2_add_18 : decode cX2_add 18 = .ok (.iload_n 2, 1) := by decide +kernel
theorem dX2_add_19 : decode cX2_add 19 = .ok (.iastore, 1) := by decide +kernel
theorem dX2_add_20 : decode cX2_add 20 = .ok (.aload_n 0, 1) := by decide +kernel
theorem dX2_add_21 : decode cX2_add 21 = .ok (.getfield 18, 3) := by decide +kernel
theorem dX2_add_24 : decode cX2_add 24 = .ok (.aload_n 0, 1) := by decide +kernel
theorem dX2_add_25 : decode cX2_add 25 = .ok (.getfield 21, 3) := by decide +kernel
theorem dX2_add_28 : decode cX2_add 28 = .ok (.iload_n 3, 1) := by decide +kernel
theorem dX2_add_29 : decode cX2_add 29 = .ok (.iastore, 1) := by decide +kernel
theorem dX2_add_30 : decode cX2_add 30 = .ok (.aload_n 0, 1) := by decide +kernel
theorem dX2_add_31 : decode cX2_add 31 = .ok (.aload_n 0, 1) := by decide +kernel
theorem dX2_add_32 : decode cX2_add 32 = .ok (.getfield 21, 3) := by decide +kernel
theorem dX2_add_35 : decode cX2_add 35 = .ok (.iconst 1, 1) := by decide +kernel
theorem dX2_add_36 : decode cX2_add 36 = .ok (.iadd, 1) := by decide +kernel
theorem dX2_add_37 : decode cX2_add 37 = .ok (.bipush 40, 2) := by decide +kernel
theorem dX2_add_39 : decode cX2_add 39 = .ok (.irem, 1) := by decide +kernel
theorem dX2_add_40 : decode cX2_add 40 = .ok (.putfield 21, 3) := by decide +kernel
theorem dX2_add_43 : decode cX2_add 43 = .ok (.aload_n 0, 1) := by decide +kernel
theorem dX2_add_44 : decode cX2_add 44 = .ok (.getfield 25, 3) := by decide +kernel
theorem dX2_add_47 : decode cX2_add 47 = .ok (.bipush 40, 2) := by decide +kernel
theorem dX2_add_49 : decode cX2_add 49 = .ok (.if_icmp .ge 13, 3) := by decide +kernel
theorem dX2_add_52 : decode cX2_add 52 = .ok (.aload_n 0, 1) := by decide +kernel
theorem dX2_add_53 : decode cX2_add 53 = .ok (.dup, 1) := by decide +kernel
theorem dX2_add_54 : decode cX2_add 54 = .ok (.getfield 25, 3) := by decide +kernel
theorem dX2_add_57 : decode cX2_add 57 = .ok (.iconst 1, 1) := by decide +kernel
theorem dX2_add_58 : decode cX2_add 58 = .ok (.iadd, 1) := by decide +kernel
theorem dX2_add_59 : decode cX2_add 59 = .ok (.putfield 25, 3) := by decide +kernel
theorem dX2_add_62 : decode cX2_add 62 = .ok (.return_, 1) := by decide +kernel
theorem dX2_find_0 : decode cX2_find 0 = .ok (.aload_n 0, 1) := by decide +kernel
theorem dX2_find_1 : decode cX2_find 1 = .ok (.getfield 21, 3) := by decide +kernel
theorem dX2_find_4 : decode cX2_find 4 = .ok (.bipush 40, 2) := by decide +kernel
theorem dX2_find_6 : decode cX2_find 6 = .ok (.iadd, 1) := by decide +kernel
theorem dX2_find_7 : decode cX2_find 7 = .ok (.iconst 1, 1) := by decide +kernel
theorem dX2_find_8 : decode cX2_find 8 = .ok (.isub, 1) := by decide +kernel
theorem dX2_find_9 : decode cX2_find 9 = .ok (.iload_n 1, 1) := by decide +kernel
theorem dX2_find_10 : decode cX2_find 10 = .ok (.isub, 1) := by decide +kernel
theorem dX2_find_11 : decode cX2_find 11 = .ok (.bipush 40, 2) := by decide +kernel
theorem dX2_find_13 : decode cX2_find 13 = .ok (.irem, 1) := by decide +kernel
theorem dX2_find_14 : decode cX2_find 14 = .ok (.istore_n 3, 1) := by decide +kernel
theorem dX2_find_15 : decode cX2_find 15 = .ok (.iload_n 2, 1) := by decide +kernel
theorem dX2_find_16 : decode cX2_find 16 = .ok (.lookupswitch 42 #[(0, 28), (1, 35)], 28) := by decide +kernel
theorem dX2_find_44 : decode cX2_find 44 = .ok (.aload_n 0, 1) := by decide +kernel
theorem dX2_find_45 : decode cX2_find 45 = .ok (.getfield 9, 3) := by decide +kernel
theorem dX2_find_48 : decode cX2_find 48 = .ok (.iload_n 3, 1) := by decide +kernel
theorem dX2_find_49 : decode cX2_find 49 = .ok (.iaload, 1) := by decide +kernel
theorem dX2_find_50 : decode cX2_find 50 = .ok (.ireturn, 1) := by decide +kernel
theorem dX2_find_51 : decode cX2_find 51 = .ok (.aload_n 0, 1) := by decide +kernel
theorem dX2_find_52 : decode cX2_find 52 = .ok (.getfield 15, 3) := by decide +kernel
theorem dX2_find_55 : decode cX2_find 55 = .ok (.iload_n 3, 1) := by decide +kernel
theorem dX2_find_56 : decode cX2_find 56 = .ok (.iaload, 1) := by decide +kernel
theorem dX2_find_57 : decode cX2_find 57 = .ok (.ireturn, 1) := by decide +kernel
theorem dX2_find_58 : decode cX2_find 58 = .ok (.aload_n 0, 1) := by decide +kernel
theorem dX2_find_59 : decode cX2_find 59 = .ok (.getfield 18, 3) := by decide +kernel
theorem dX2_find_62 : decode cX2_find 62 = .ok (.iload_n 3, 1) := by decide +kernel
theorem dX2_find_63 : decode cX2_find 63 = .ok (.iaload, 1) := by decide +kernel
theorem dX2_find_64 : decode cX2_find 64 = .ok (.ireturn, 1) := by decide +kernel
theorem dX2_copyFrom_0 : decode cX2_copyFrom 0 = .ok (.aload_n 1, 1) := by decide +kernel
theorem dX2_copyFrom_1 : decode cX2_copyFrom 1 = .ok (.getfield 9, 3) := by decide +kernel
theorem dX2_copyFrom_4 : decode cX2_copyFrom 4 = .ok (.iconst 0, 1) := by decide +kernel
theorem dX2_copyFrom_5 : decode cX2_copyFrom 5 = .ok (.aload_n 0, 1) := by decide +kernel
theorem dX2_copyFrom_6 : decode cX2_copyFrom 6 = .ok (.getfield 9, 3) := by decide +kernel
theorem dX2_copyFrom_9 : decode cX2_copyFrom 9 = .ok (.iconst 0, 1) := by decide +kernel
theorem dX2_copyFrom_10 : decode cX2_copyFrom 10 = .ok (.bipush 40, 2) := by decide +kernel
theorem dX2_copyFrom_12 : decode cX2_copyFrom 12 = .ok (.invokestatic 28, 3) := by decide +kernel
theorem dX2_copyFrom_15 : decode cX2_copyFrom 15 = .ok (.aload_n 1, 1) := by decide +kernel
theorem dX2_copyFrom_16 : decode cX2_copyFrom 16 = .ok (.getfield 15, 3) := by decide +kernel
theorem dX2_copyFrom_19 : decode cX2_copyFrom 19 = .ok (.iconst 0, 1) := by decide +kernel
theorem dX2_copyFrom_20 : decode cX2_copyFrom 20 = .ok (.aload_n 0, 1) := by decide +kernel
theorem dX2_copyFrom_21 : decode cX2_copyFrom 21 = .ok (.getfield 15, 3) := by decide +kernel
theorem dX2_copyFrom_24 : decode cX2_copyFrom 24 = .ok (.iconst 0, 1) := by decide +kernel
theorem dX2_copyFrom_25 : decode cX2_copyFrom 25 = .ok (.bipush 40, 2) := by decide +kernel
theorem dX2_copyFrom_27 : decode cX2_copyFrom 27 = .ok (.invokestatic 28, 3) := by decide +kernel
theorem dX2_copyFrom_30 : decode cX2_copyFrom 30 = .ok (.aload_n 1, 1) := by decide +kernel
theorem dX2_copyFrom_31 : decode cX2_copyFrom 31 = .ok (.getfield 18, 3) := by decide +kernel
theorem dX2_copyFrom_34 : decode cX2_copyFrom 34 = .ok (.iconst 0, 1) := by decide +kernel
theorem dX2_copyFrom_35 : decode cX2_copyFrom 35 = .ok (.aload_n 0, 1) := by decide +kernel
theorem dX2_copyFrom_36 : decode cX2_copyFrom 36 = .ok (.getfield 18, 3) := by decide +kernel
theorem dX2_copyFrom_39 : decode cX2_copyFrom 39 = .ok (.iconst 0, 1) := by decide +kernel
theorem dX2_copyFrom_40 : decode cX2_copyFrom 40 = .ok (.bipush 40, 2) := by decide +kernel
theorem dX2_copyFrom_42 : decode cX2_copyFrom 42 = .ok (.invokestatic 28, 3) := by decide +kernel
theorem dX2_copyFrom_45 : decode cX2_copyFrom 45 = .ok (.aload_n 0, 1) := by decide +kernel
theorem dX2_copyFrom_46 : decode cX2_copyFrom 46 = .ok (.aload_n 1, 1) := by decide +kernel
theorem dX2_copyFrom_47 : decode cX2_copyFrom 47 = .ok (.getfield 25, 3) := by decide +kernel
theorem dX2_copyFrom_50 : decode cX2_copyFrom 50 = .ok (.putfield 25, 3) := by decide +kernel
theorem dX2_copyFrom_53 : decode cX2_copyFrom 53 = .ok (.aload_n 0, 1) := by decide +kernel
theorem dX2_copyFrom_54 : decode cX2_copyFrom 54 = .ok (.aload_n 1, 1) := by decide +kernel
theorem dX2_copyFrom_55 : decode cX2_copyFrom 55 = .ok (.getfield 21, 3) := by decide +kernel
theorem dX2_copyFrom_58 : decode cX2_copyFrom 58 = .ok (.putfield 21, 3) := by decide +kernel
theorem dX2_copyFrom_61 : decode cX2_copyFrom 61 = .ok (.return_, 1) := by decide +kernel
theorem dX3_init_0 : decode cX3_init 0 = .ok (.aload_n 0, 1) := by decide +kernel
theorem dX3_init_1 : decode cX3_init 1 = .ok (.invokespecial 3, 3) := by decide +kernel
theorem dX3_init_4 : decode cX3_init 4 = .ok (.aload_n 0, 1) := by decide +kernel
theorem dX3_init_5 : decode cX3_init 5 = .ok (.bipush 8, 2) := by decide +kernel
theorem dX3_init_7 : decode cX3_init 7 = .ok (.anewarray 9, 3) := by decide +kernel
theorem dX3_init_10 : decode cX3_init 10 = .ok (.putfield 11, 3) := by decide +kernel
theorem dX3_init_13 : decode cX3_init 13 = .ok (.aload_n 0, 1) := by decide +kernel
theorem dX3_init_14 : decode cX3_init 14 = .ok (.bipush 12, 2) := by decide +kernel
theorem dX3_init_16 : decode cX3_init 16 = .ok (.anewarray 17, 3) := by decide +kernel
theorem dX3_init_19 : decode cX3_init 19 = .ok (.putfield 19, 3) := by decide +kernel
theorem dX3_init_22 : decode cX3_init 22 = .ok (.aload_n 0, 1) := by decide +kernel
theorem dX3_init_23 : decode cX3_init 23 = .ok (.iconst 3, 1) := by decide +kernel
theorem dX3_init_24 : decode cX3_init 24 = .ok (.newarray .int, 2) := by decide +kernel
theorem dX3_init_26 : decode cX3_init 26 = .ok (.putfield 23, 3) := by decide +kernel
theorem dX3_init_29 : decode cX3_init 29 = .ok (.aload_n 0, 1) := by decide +kernel
theorem dX3_init_30 : decode cX3_init 30 = .ok (.bipush 6, 2) := by decide +kernel
theorem dX3_init_32 : decode cX3_init 32 = .ok (.newarray .int, 2) := by decide +kernel
theorem dX3_init_34 : decode cX3_init 34 = .ok (.putfield 27, 3) := by decide +kernel
theorem dX3_init_37 : decode cX3_init 37 = .ok (.aload_n 0, 1) := by decide +kernel
theorem dX3_init_38 : decode cX3_init 38 = .ok (.new 30, 3) := by decide +kernel
theorem dX3_init_41 : decode cX3_init 41 = .ok (.dup, 1) := by decide +kernel
theorem dX3_init_42 : decode cX3_init 42 = .ok (.invokespecial 32, 3) := by decide +kernel
theorem dX3_init_45 : decode cX3_init 45 = .ok (.putfield 33, 3) := by decide +kernel
theorem dX3_init_48 : decode cX3_init 48 = .ok (.aload_n 0, 1) := by decide +kernel
theorem dX3_init_49 : decode cX3_init 49 = .ok (.bipush 12, 2) := by decide +kernel
theorem dX3_init_51 : decode cX3_init 51 = .ok (.newarray .int, 2) := by decide +kernel
theorem dX3_init_53 : decode cX3_init 53 = .ok (.putfield 37, 3) := by decide +kernel
theorem dX3_init_56 : decode cX3_init 56 = .ok (.aload_n 0, 1) := by decide +kernel
theorem dX3_init_57 : decode cX3_init 57 = .ok (.iconst 2, 1) := by decide +kernel
theorem dX3_init_58 : decode cX3_init 58 = .ok (.putfield 40, 3) := by decide +kernel
theorem dX3_init_61 : decode cX3_init 61 = .ok (.aload_n 0, 1) := by decide +kernel
theorem dX3_init_62 : decode cX3_init 62 = .ok (.aload_n 1, 1) := by decide +kernel
theorem dX3_init_63 : decode cX3_init 63 = .ok (.putfield 44, 3) := by decide +kernel
theorem dX3_init_66 : decode cX3_init 66 = .ok (.iconst 0, 1) := by decide +kernel
theorem dX3_init_67 : decode cX3_init 67 = .ok (.istore_n 2, 1) := by decide +kernel
theorem dX3_init_68 : decode cX3_init 68 = .ok (.iload_n 2, 1) := by decide +kernel
theorem dX3_init_69 : decode cX3_init 69 = .ok (.bipush 8, 2) := by decide +kernel
theorem dX3_init_71 : decode cX3_init 71 = .ok (.if_icmp .ge 22, 3) := by decide +kernel
theorem dX3_init_74 : decode cX3_init 74 = .ok (.aload_n 0, 1) := by decide +kernel
theorem dX3_init_75 : decode cX3_init 75 = .ok (.getfield 11, 3) := by decide +kernel
theorem dX3_init_78 : decode cX3_init 78 = .ok (.iload_n 2, 1) := by decide +kernel
theorem dX3_init_79 : decode cX3_init 79 = .ok (.new 9, 3) := by decide +kernel
theorem dX3_init_82 : decode cX3_init 82 = .ok (.dup, 1) := by decide +kernel
theorem dX3_init_83 : decode cX3_init 83 = .ok (.invokespecial 48, 3) := by decide +kernel
theorem dX3_init_86 : decode cX3_init 86 = .ok (.aastore, 1) := by decide +kernel
theorem dX3_init_87 : decode cX3_init 87 = .ok (.iinc 2 1, 3) := by decide +kernel
theorem dX3_init_90 : decode cX3_init 90 = .ok (.goto (-22), 3) := by decide +kernel
theorem dX3_init_93 : decode cX3_init 93 = .ok (.iconst 0, 1) := by decide +kernel
theorem dX3_init_94 : decode cX3_init 94 = .ok (.istore_n 2, 1) := by decide +kernel
theorem dX3_init_95 : decode cX3_init 95 = .ok (.iload_n 2, 1) := by decide +kernel
theorem dX3_init_96 : decode cX3_init 96 = .ok (.bipush 12, 2) := by decide +kernel
theorem dX3_init_98 : decode cX3_init 98 = .ok (.if_icmp .ge 22, 3) := by decide +kernel
theorem dX3_init_101 : decode cX3_init 101 = .ok (.aload_n 0, 1) := by decide +kernel
theorem dX3_init_102 : decode cX3_init 102 = .ok (.getfield 19, 3) := by decide +kernel
theorem dX3_init_105 : decode cX3_init 105 = .ok (.iload_n 2, 1) := by decide +kernel
theorem dX3_init_106 : decode cX3_init 106 = .ok (.new 17, 3) := by decide +kernel
theorem dX3_init_109 : decode cX3_init 109 = .ok (.dup, 1) := by decide +kernel
theorem dX3_init_110 : decode cX3_init 110 = .ok (.invokespecial 49, 3) := by decide +kernel
theorem dX3_init_113 : decode cX3_init 113 = .ok (.aastore, 1) := by decide +kernel
theorem dX3_init_114 : decode cX3_init 114 = .ok (.iinc 2 1, 3) := by decide +kernel
theorem dX3_init_117 : decode cX3_init 117 = .ok (.goto (-22), 3) := by decide +kernel
theorem dX3_init_120 : decode cX3_init 120 = .ok (.iconst 0, 1) := by decide +kernel
theorem dX3_init_121 : decode cX3_init 121 = .ok (.istore_n 2, 1) := by decide +kernel
theorem dX3_init_122 : decode cX3_init 122 = .ok (.iload_n 2, 1) := by decide +kernel
theorem dX3_init_123 : decode cX3_init 123 = .ok (.iconst 3, 1) := by decide +kernel
theorem dX3_init_124 : decode cX3_init 124 = .ok (.if_icmp .ge 16, 3) := by decide +kernel
theorem dX3_init_127 : decode cX3_init 127 = .ok (.aload_n 0, 1) := by decide +kernel
theorem dX3_init_128 : decode cX3_init 128 = .ok (.getfield 23, 3) := by decide +kernel
theorem dX3_init_131 : decode cX3_init 131 = .ok (.iload_n 2, 1) := by decide +kernel
theorem dX3_init_132 : decode cX3_init 132 = .ok (.iconst (-1), 1) := by decide +kernel
theorem dX3_init_133 : decode cX3_init 133 = .ok (.iastore, 1) := by decide +kernel
theorem dX3_init_134 : decode cX3_init 134 = .ok (.iinc 2 1, 3) := by decide +kernel
theorem dX3_init_137 : decode cX3_init 137 = .ok (.goto (-15), 3) := by decide +kernel
theorem dX3_init_140 : decode cX3_init 140 = .ok (.return_, 1) := by decide +kernel
theorem dX3_copyFrom_0 : decode cX3_copyFrom 0 = .ok (.aload_n 0, 1) := by decide +kernel
theorem dX3_copyFrom_1 : decode cX3_copyFrom 1 = .ok (.aload_n 1, 1) := by decide +kernel
theorem dX3_copyFrom_2 : decode cX3_copyFrom 2 = .ok (.getfield 50, 3) := by decide +kernel
theorem dX3_copyFrom_5 : decode cX3_copyFrom 5 = .ok (.putfield 50, 3) := by decide +kernel
theorem dX3_copyFrom_8 : decode cX3_copyFrom 8 = .ok (.iconst 0, 1) := by decide +kernel
theorem dX3_copyFrom_9 : decode cX3_copyFrom 9 = .ok (.istore_n 2, 1) := by decide +kernel
theorem dX3_copyFrom_10 : decode cX3_copyFrom 10 = .ok (.iload_n 2, 1) := by decide +kernel
theorem dX3_copyFrom_11 : decode cX3_copyFrom 11 = .ok (.aload_n 0, 1) := by decide +kernel
theorem dX3_copyFrom_12 : decode cX3_copyFrom 12 = .ok (.getfield 50, 3) := by decide +kernel
theorem dX3_copyFrom_15 : decode cX3_copyFrom 15 = .ok (.if_icmp .ge 24, 3) := by decide +kernel
theorem dX3_copyFrom_18 : decode cX3_copyFrom 18 = .ok (.aload_n 0, 1) := by decide +kernel
theorem dX3_copyFrom_19 : decode cX3_copyFrom 19 = .ok (.getfield 11, 3) := by decide +kernel
theorem dX3_copyFrom_22 : decode cX3_copyFrom 22 = .ok (.iload_n 2, 1) := by decide +kernel
theorem dX3_copyFrom_23 : decode cX3_copyFrom 23 = .ok (.aaload, 1) := by decide +kernel
theorem dX3_copyFrom_24 : decode cX3_copyFrom 24 = .ok (.aload_n 1, 1) := by decide +kernel
theorem dX3_copyFrom_25 : decode cX3_copyFrom 25 = .ok (.getfield 11, 3) := by decide +kernel
theorem dX3_copyFrom_28 : decode cX3_copyFrom 28 = .ok (.iload_n 2, 1) := by decide +kernel
theorem dX3_copyFrom_29 : decode cX3_copyFrom 29 = .ok (.aaload, 1) := by decide +kernel
theorem dX3_copyFrom_30 : decode cX3_copyFrom 30 = .ok (.invokevirtual 53, 3) := by decide +kernel
theorem dX3_copyFrom_33 : decode cX3_copyFrom 33 = .ok (.iinc 2 1, 3) := by decide +kernel
theorem dX3_copyFrom_36 : decode cX3_copyFrom 36 = .ok (.goto (-26), 3) := by decide +kernel
theorem dX3_copyFrom_39 : decode cX3_copyFrom 39 = .ok (.aload_n 0, 1) := by decide +kernel
theorem dX3_copyFrom_40 : decode cX3_copyFrom 40 = .ok (.aload_n 1, 1) := by decide +kernel
theorem dX3_copyFrom_41 : decode cX3_copyFrom 41 = .ok (.getfield 57, 3) := by decide +kernel
theorem dX3_copyFrom_44 : decode cX3_copyFrom 44 = .ok (.putfield 57, 3) := by decide +kernel
theorem dX3_copyFrom_47 : decode cX3_copyFrom 47 = .ok (.iconst 0, 1) := by decide +kernel
theorem dX3_copyFrom_48 : decode cX3_copyFrom 48 = .ok (.istore_n 2, 1) := by decide +kernel
theorem dX3_copyFrom_49 : decode cX3_copyFrom 49 = .ok (.iload_n 2, 1) := by decide +kernel
theorem dX3_copyFrom_50 : decode cX3_copyFrom 50 = .ok (.aload_n 0, 1) := by decide +kernel
theorem dX3_copyFrom_51 : decode cX3_copyFrom 51 = .ok (.getfield 57, 3) := by decide +kernel
theorem dX3_copyFrom_54 : decode cX3_copyFrom 54 = .ok (.if_icmp .ge 24, 3) := by decide +kernel
theorem dX3_copyFrom_57 : decode cX3_copyFrom 57 = .ok (.aload_n 0, 1) := by decide +kernel
theorem dX3_copyFrom_58 : decode cX3_copyFrom 58 = .ok (.getfield 19, 3) := by decide +kernel
theorem dX3_copyFrom_61 : decode cX3_copyFrom 61 = .ok (.iload_n 2, 1) := by decide +kernel
theorem dX3_copyFrom_62 : decode cX3_copyFrom 62 = .ok (.aaload, 1) := by decide +kernel
theorem dX3_copyFrom_63 : decode cX3_copyFrom 63 = .ok (.aload_n 1, 1) := by decide +kernel
theorem dX3_copyFrom_64 : decode cX3_copyFrom 64 = .ok (.getfield 19, 3) := by decide +kernel
theorem dX3_copyFrom_67 : decode cX3_copyFrom 67 = .ok (.iload_n 2, 1) := by decide +kernel
theorem dX3_copyFrom_68 : decode cX3_copyFrom 68 = .ok (.aaload, 1) := by decide +kernel
theorem dX3_copyFrom_69 : decode cX3_copyFrom 69 = .ok (.invokevirtual 60, 3) := by decide +kernel
theorem dX3_copyFrom_72 : decode cX3_copyFrom 72 = .ok (.iinc 2 1, 3) := by decide +kernel
theorem dX3_copyFrom_75 : decode cX3_copyFrom 75 = .ok (.goto (-26), 3) := by decide +kernel
theorem dX3_copyFrom_78 : decode cX3_copyFrom 78 = .ok (.aload_n 1, 1) := by decide +kernel
theorem dX3_copyFrom_79 : decode cX3_copyFrom 79 = .ok (.getfield 23, 3) := by decide +kernel
theorem dX3_copyFrom_82 : decode cX3_copyFrom 82 = .ok (.iconst 0, 1) := by decide +kernel
theorem dX3_copyFrom_83 : decode cX3_copyFrom 83 = .ok (.aload_n 0, 1) := by decide +kernel
theorem dX3_copyFrom_84 : decode cX3_copyFrom 84 = .ok (.getfield 23, 3) := by decide +kernel
theorem dX3_copyFrom_87 : decode cX3_copyFrom 87 = .ok (.iconst 0, 1) := by decide +kernel
theorem dX3_copyFrom_88 : decode cX3_copyFrom 88 = .ok (.iconst 3, 1) := by decide +kernel
theorem dX3_copyFrom_89 : decode cX3_copyFrom 89 = .ok (.invokestatic 63, 3) := by decide +kernel
theorem dX3_copyFrom_92 : decode cX3_copyFrom 92 = .ok (.aload_n 1, 1) := by decide +kernel
theorem dX3_copyFrom_93 : decode cX3_copyFrom 93 = .ok (.getfield 27, 3) := by decide +kernel
theorem dX3_copyFrom_96 : decode cX3_copyFrom 96 = .ok (.iconst 0, 1) := by decide +kernel
theorem dX3_copyFrom_97 : decode cX3_copyFrom 97 = .ok (.aload_n 0, 1) := by decide +kernel
theorem dX3_copyFrom_98 : decode cX3_copyFrom 98 = .ok (.getfield 27, 3) := by decide +kernel
theorem dX3_copyFrom_101 : decode cX3_copyFrom 101 = .ok (.iconst 0, 1) := by decide +kernel
theorem dX3_copyFrom_102 : decode cX3_copyFrom 102 = .ok (.bipush 6, 2) := by decide +kernel
theorem dX3_copyFrom_104 : decode cX3_copyFrom 104 = .ok (.invokestatic 63, 3) := by decide +kernel
theorem dX3_copyFrom_107 : decode cX3_copyFrom 107 = .ok (.aload_n 0, 1) := by decide +kernel
theorem dX3_copyFrom_108 : decode cX3_copyFrom 108 = .ok (.getfield 33, 3) := by decide +kernel
theorem dX3_copyFrom_111 : decode cX3_copyFrom 111 = .ok (.aload_n 1, 1) := by decide +kernel
theorem dX3_copyFrom_112 : decode cX3_copyFrom 112 = .ok (.getfield 33, 3) := by decide +kernel
theorem dX3_copyFrom_115 : decode cX3_copyFrom 115 = .ok (.invokevirtual 69, 3) := by decide +kernel
theorem dX3_copyFrom_118 : decode cX3_copyFrom 118 = .ok (.aload_n 0, 1) := by decide +kernel
theorem dX3_copyFrom_119 : decode cX3_copyFrom 119 = .ok (.aload_n 1, 1) := by decide +kernel
theorem dX3_copyFrom_120 : decode cX3_copyFrom 120 = .ok (.getfield 72, 3) := by decide +kernel
theorem dX3_copyFrom_123 : decode cX3_copyFrom 123 = .ok (.putfield 72, 3) := by decide +kernel
theorem dX3_copyFrom_126 : decode cX3_copyFrom 126 = .ok (.aload_n 0, 1) := by decide +kernel
theorem dX3_copyFrom_127 : decode cX3_copyFrom 127 = .ok (.aload_n 1, 1) := by decide +kernel
theorem dX3_copyFrom_128 : decode cX3_copyFrom 128 = .ok (.getfield 40, 3) := by decide +kernel
theorem dX3_copyFrom_131 : decode cX3_copyFrom 131 = .ok (.putfield 40, 3) := by decide +kernel
theorem dX3_copyFrom_134 : decode cX3_copyFrom 134 = .ok (.return_, 1) := by decide +kernel
theorem dX3_addUnit_0 : decode cX3_addUnit 0 = .ok (.aload_n 0, 1) := by decide +kernel
theorem dX3_addUnit_1 : decode cX3_addUnit 1 = .ok (.getfield 50, 3) := by decide +kernel
theorem dX3_addUnit_4 : decode cX3_addUnit 4 = .ok (.istore_n 3, 1) := by decide +kernel
theorem dX3_addUnit_5 : decode cX3_addUnit 5 = .ok (.aload_n 0, 1) := by decide +kernel
theorem dX3_addUnit_6 : decode cX3_addUnit 6 = .ok (.getfield 11, 3) := by decide +kernel
theorem dX3_addUnit_9 : decode cX3_addUnit 9 = .ok (.iload_n 3, 1) := by decide +kernel
theorem dX3_addUnit_10 : decode cX3_addUnit 10 = .ok (.aaload, 1) := by decide +kernel
theorem dX3_addUnit_11 : decode cX3_addUnit 11 = .ok (.iload_n 1, 1) := by decide +kernel
theorem dX3_addUnit_12 : decode cX3_addUnit 12 = .ok (.iload_n 2, 1) := by decide +kernel
theorem dX3_addUnit_13 : decode cX3_addUnit 13 = .ok (.invokevirtual 75, 3) := by decide +kernel
theorem dX3_addUnit_16 : decode cX3_addUnit 16 = .ok (.aload_n 0, 1) := by decide +kernel
theorem dX3_addUnit_17 : decode cX3_addUnit 17 = .ok (.dup, 1) := by decide +kernel
theorem dX3_addUnit_18 : decode cX3_addUnit 18 = .ok (.getfield 50, 3) := by decide +kernel
theorem dX3_addUnit_21 : decode cX3_addUnit 21 = .ok (.iconst 1, 1) := by decide +kernel
theorem dX3_addUnit_22 : decode cX3_addUnit 22 = .ok (.iadd, 1) := by decide +kernel
theorem dX3_addUnit_23 : decode cX3_addUnit 23 = .ok (.putfield 50, 3) := by decide +kernel
theorem dX3_addUnit_26 : decode cX3_addUnit 26 = .ok (.iload_n 3, 1) := by decide +kernel
theorem dX3_addUnit_27 : decode cX3_addUnit 27 = .ok (.ireturn, 1) := by decide +kernel
theorem dX3_breakUnit_0 : decode cX3_breakUnit 0 = .ok (.aload_n 0, 1) := by decide +kernel
theorem dX3_breakUnit_1 : decode cX3_breakUnit 1 = .ok (.getfield 11, 3) := by decide +kernel
theorem dX3_breakUnit_4 : decode cX3_breakUnit 4 = .ok (.iload_n 1, 1) := by decide +kernel
theorem dX3_breakUnit_5 : decode cX3_breakUnit 5 = .ok (.aaload, 1) := by decide +kernel
theorem dX3_breakUnit_6 : decode cX3_breakUnit 6 = .ok (.iconst 1, 1) := by decide +kernel
theorem dX3_breakUnit_7 : decode cX3_breakUnit 7 = .ok (.putfield 79, 3) := by decide +kernel
theorem dX3_breakUnit_10 : decode cX3_breakUnit 10 = .ok (.aload_n 0, 1) := by decide +kernel
theorem dX3_breakUnit_11 : decode cX3_breakUnit 11 = .ok (.getfield 11, 3) := by decide +kernel
theorem dX3_breakUnit_14 : decode cX3_breakUnit 14 = .ok (.iload_n 1, 1) := by decide +kernel
theorem dX3_breakUnit_15 : decode cX3_breakUnit 15 = .ok (.aaload, 1) := by decide +kernel
theorem dX3_breakUnit_16 : decode cX3_breakUnit 16 = .ok (.getfield 83, 3) := by decide +kernel
theorem dX3_breakUnit_19 : decode cX3_breakUnit 19 = .ok (.istore_n 2, 1) := by decide +kernel
theorem dX3_breakUnit_20 : decode cX3_breakUnit 20 = .ok (.iload_n 2, 1) := by decide +kernel
theorem dX3_breakUnit_21 : decode cX3_breakUnit 21 = .ok (.iconst (-1), 1) := by decide +kernel
theorem dX3_breakUnit_22 : decode cX3_breakUnit 22 = .ok (.if_icmp .eq 15, 3) := by decide +kernel
theorem dX3_breakUnit_25 : decode cX3_breakUnit 25 = .ok (.aload_n 0, 1) := by decide +kernel
theorem dX3_breakUnit_26 : decode cX3_breakUnit 26 = .ok (.getfield 19, 3) := by decide +kernel
theorem dX3_breakUnit_29 : decode cX3_breakUnit 29 = .ok (.iload_n 2, 1) := by decide +kernel
theorem dX3_breakUnit_30 : decode cX3_breakUnit 30 = .ok (.aaload, 1) := by decide +kernel
theorem dX3_breakUnit_31 : decode cX3_breakUnit 31 = .ok (.invokevirtual 86, 3) := by decide +kernel
theorem dX3_breakUnit_34 : decode cX3_breakUnit 34 = .ok (.ifCond .ne 5, 3) := by decide +kernel
theorem dX3_breakUnit_37 : decode cX3_breakUnit 37 = .ok (.iconst (-1), 1) := by decide +kernel
theorem dX3_breakUnit_38 : decode cX3_breakUnit 38 = .ok (.ireturn, 1) := by decide +kernel
theorem dX3_breakUnit_39 : decode cX3_breakUnit 39 = .ok (.aload_n 0, 1) := by decide +kernel
theorem dX3_breakUnit_40 : decode cX3_breakUnit 40 = .ok (.iload_n 2, 1) := by decide +kernel
theorem dX3_breakUnit_41 : decode cX3_breakUnit 41 = .ok (.invokevirtual 90, 3) := by decide +kernel
theorem dX3_breakUnit_44 : decode cX3_breakUnit 44 = .ok (.iload_n 2, 1) := by decide +kernel
theorem dX3_breakUnit_45 : decode cX3_breakUnit 45 = .ok (.ireturn, 1) := by decide +kernel
theorem dX3_brokenUnits_0 : decode cX3_brokenUnits 0 = .ok (.iconst 0, 1) := by decide +kernel
theorem dX3_brokenUnits_1 : decode cX3_brokenUnits 1 = .ok (.istore_n 1, 1) := by decide +kernel
theorem dX3_brokenUnits_2 : decode cX3_brokenUnits 2 = .ok (.iconst 0, 1) := by decide +kernel
theorem dX3_brokenUnits_3 : decode cX3_brokenUnits 3 = .ok (.istore_n 2, 1) := by decide +kernel
theorem dX3_brokenUnits_4 : decode cX3_brokenUnits 4 = .ok (.iload_n 2, 1) := by decide +kernel
theorem dX3_brokenUnits_5 : decode cX3_brokenUnits 5 = .ok (.aload_n 0, 1) := by decide +kernel
theorem dX3_brokenUnits_6 : decode cX3_brokenUnits 6 = .ok (.getfield 50, 3) := by decide +kernel
theorem dX3_brokenUnits_9 : decode cX3_brokenUnits 9 = .ok (.if_icmp .ge 24, 3) := by decide +kernel
theorem dX3_brokenUnits_12 : decode cX3_brokenUnits 12 = .ok (.aload_n 0, 1) := by decide +kernel
theorem dX3_brokenUnits_13 : decode cX3_brokenUnits 13 = .ok (.getfield 11, 3) := by decide +kernel
theorem dX3_brokenUnits_16 : decode cX3_brokenUnits 16 = .ok (.iload_n 2, 1) := by decide +kernel
theorem dX3_brokenUnits_17 : decode cX3_brokenUnits 17 = .ok (.aaload, 1) := by decide +kernel
theorem dX3_brokenUnits_18 : decode cX3_brokenUnits 18 = .ok (.getfield 79, 3) := by decide +kernel
theorem dX3_brokenUnits_21 : decode cX3_brokenUnits 21 = .ok (.ifCond .eq 6, 3) := by decide +kernel
theorem dX3_brokenUnits_24 : decode cX3_brokenUnits 24 = .ok (.iinc 1 1, 3) := by decide +kernel
theorem dX3_brokenUnits_27 : decode cX3_brokenUnits 27 = .ok (.iinc 2 1, 3) := by decide +kernel
theorem dX3_brokenUnits_30 : decode cX3_brokenUnits 30 = .ok (.goto (-26), 3) := by decide +kernel
theorem dX3_brokenUnits_33 : decode cX3_brokenUnits 33 = .ok (.iload_n 1, 1) := by decide +kernel
theorem dX3_brokenUnits_34 : decode cX3_brokenUnits 34 = .ok (.ireturn, 1) := by decide +kernel
theorem dX3_freeUnits_0 : decode cX3_freeUnits 0 = .ok (.iconst 0, 1) := by decide +kernel
theorem dX3_freeUnits_1 : decode cX3_freeUnits 1 = .ok (.istore_n 1, 1) := by decide +kernel
theorem dX3_freeUnits_2 : decode cX3_freeUnits 2 = .ok (.iconst 0, 1) := by decide +kernel
theorem dX3_freeUnits_3 : decode cX3_freeUnits 3 = .ok (.istore_n 2, 1) := by decide +kernel
theorem dX3_freeUnits_4 : decode cX3_freeUnits 4 = .ok (.iload_n 2, 1) := by decide +kernel
theorem dX3_freeUnits_5 : decode cX3_freeUnits 5 = .ok (.aload_n 0, 1) := by decide +kernel
theorem dX3_freeUnits_6 : decode cX3_freeUnits 6 = .ok (.getfield 50, 3) := by decide +kernel
theorem dX3_freeUnits_9 : decode cX3_freeUnits 9 = .ok (.if_icmp .ge 25, 3) := by decide +kernel
theorem dX3_freeUnits_12 : decode cX3_freeUnits 12 = .ok (.aload_n 0, 1) := by decide +kernel
theorem dX3_freeUnits_13 : decode cX3_freeUnits 13 = .ok (.getfield 11, 3) := by decide +kernel
theorem dX3_freeUnits_16 : decode cX3_freeUnits 16 = .ok (.iload_n 2, 1) := by decide +kernel
theorem dX3_freeUnits_17 : decode cX3_freeUnits 17 = .ok (.aaload, 1) := by decide +kernel
theorem dX3_freeUnits_18 : decode cX3_freeUnits 18 = .ok (.iconst 0, 1) := by decide +kernel
theorem dX3_freeUnits_19 : decode cX3_freeUnits 19 = .ok (.invokevirtual 94, 3) := by decide +kernel
theorem dX3_freeUnits_22 : decode cX3_freeUnits 22 = .ok (.ifCond .eq 6, 3) := by decide +kernel
theorem dX3_freeUnits_25 : decode cX3_freeUnits 25 = .ok (.iinc 1 1, 3) := by decide +kernel
theorem dX3_freeUnits_28 : decode cX3_freeUnits 28 = .ok (.iinc 2 1, 3) := by decide +kernel
theorem dX3_freeUnits_31 : decode cX3_freeUnits 31 = .ok (.goto (-27), 3) := by decide +kernel
theorem dX3_freeUnits_34 : decode cX3_freeUnits 34 = .ok (.iload_n 1, 1) := by decide +kernel
theorem dX3_freeUnits_35 : decode cX3_freeUnits 35 = .ok (.ireturn, 1) := by decide +kernel
theorem dX3_workedTicks_0 : decode cX3_workedTicks 0 = .ok (.iconst 0, 1) := by decide +kernel
theorem dX3_workedTicks_1 : decode cX3_workedTicks 1 = .ok (.istore_n 1, 1) := by decide +kernel
theorem dX3_workedTicks_2 : decode cX3_workedTicks 2 = .ok (.iconst 0, 1) := by decide +kernel
theorem dX3_workedTicks_3 : decode cX3_workedTicks 3 = .ok (.istore_n 2, 1) := by decide +kernel
theorem dX3_workedTicks_4 : decode cX3_workedTicks 4 = .ok (.iload_n 2, 1) := by decide +kernel
theorem dX3_workedTicks_5 : decode cX3_workedTicks 5 = .ok (.aload_n 0, 1) := by decide +kernel
theorem dX3_workedTicks_6 : decode cX3_workedTicks 6 = .ok (.getfield 50, 3) := by decide +kernel
theorem dX3_workedTicks_9 : decode cX3_workedTicks 9 = .ok (.if_icmp .ge 21, 3) := by decide +kernel
theorem dX3_workedTicks_12 : decode cX3_workedTicks 12 = .ok (.iload_n 1, 1) := by decide +kernel
theorem dX3_workedTicks_13 : decode cX3_workedTicks 13 = .ok (.aload_n 0, 1) := by decide +kernel
theorem dX3_workedTicks_14 : decode cX3_workedTicks 14 = .ok (.getfield 11, 3) := by decide +kernel
theorem dX3_workedTicks_17 : decode cX3_workedTicks 17 = .ok (.iload_n 2, 1) := by decide +kernel
theorem dX3_workedTicks_18 : decode cX3_workedTicks 18 = .ok (.aaload, 1) := by decide +kernel
theorem dX3_workedTicks_19 : decode cX3_workedTicks 19 = .ok (.getfield 98, 3) := by decide +kernel
theorem dX3_workedTicks_22 : decode cX3_workedTicks 22 = .ok (.iadd, 1) := by decide +kernel
theorem dX3_workedTicks_23 : decode cX3_workedTicks 23 = .ok (.istore_n 1, 1) := by decide +kernel
theorem dX3_workedTicks_24 : decode cX3_workedTicks 24 = .ok (.iinc 2 1, 3) := by decide +kernel
theorem dX3_workedTicks_27 : decode cX3_workedTicks 27 = .ok (.goto (-23), 3) := by decide +kernel
theorem dX3_workedTicks_30 : decode cX3_workedTicks 30 = .ok (.iload_n 1, 1) := by decide +kernel
theorem dX3_workedTicks_31 : decode cX3_workedTicks 31 = .ok (.ireturn, 1) := by decide +kernel
theorem dX3_freePieces_0 : decode cX3_freePieces 0 = .ok (.iconst 0, 1) := by decide +kernel
theorem dX3_freePieces_1 : decode cX3_freePieces 1 = .ok (.istore_n 1, 1) := by decide +kernel
theorem dX3_freePieces_2 : decode cX3_freePieces 2 = .ok (.iconst 0, 1) := by decide +kernel
theorem dX3_freePieces_3 : decode cX3_freePieces 3 = .ok (.istore_n 2, 1) := by decide +kernel
theorem dX3_freePieces_4 : decode cX3_freePieces 4 = .ok (.iload_n 2, 1) := by decide +kernel
theorem dX3_freePieces_5 : decode cX3_freePieces 5 = .ok (.iconst 3, 1) := by decide +kernel
theorem dX3_freePieces_6 : decode cX3_freePieces 6 = .ok (.if_icmp .ge 22, 3) := by decide +kernel
theorem dX3_freePieces_9 : decode cX3_freePieces 9 = .ok (.aload_n 0, 1) := by decide +kernel
theorem dX3_freePieces_10 : decode cX3_freePieces 10 = .ok (.getfield 23, 3) := by decide +kernel
theorem dX3_freePieces_13 : decode cX3_freePieces 13 = .ok (.iload_n 2, 1) := by decide +kernel
theorem dX3_freePieces_14 : decode cX3_freePieces 14 = .ok (.iaload, 1) := by decide +kernel
theorem dX3_freePieces_15 : decode cX3_freePieces 15 = .ok (.iconst (-1), 1) := by decide +kernel
theorem dX3_freePieces_16 : decode cX3_freePieces 16 = .ok (.if_icmp .ne 6, 3) := by decide +kernel
theorem dX3_freePieces_19 : decode cX3_freePieces 19 = .ok (.iinc 1 1, 3) := by decide +kernel
theorem dX3_freePieces_22 : decode cX3_freePieces 22 = .ok (.iinc 2 1, 3) := by decide +kernel
theorem dX3_freePieces_25 : decode cX3_freePieces 25 = .ok (.goto (-21), 3) := by decide +kernel
theorem dX3_freePieces_28 : decode cX3_freePieces 28 = .ok (.iload_n 1, 1) := by decide +kernel
theorem dX3_freePieces_29 : decode cX3_freePieces 29 = .ok (.ireturn, 1) := by decide +kernel
theorem dX3_unitFor_0 : decode cX3_unitFor 0 = .ok (.aload_n 0, 1) := by decide +kernel
theorem dX3_unitFor_1 : decode cX3_unitFor 1 = .ok (.aload_n 1, 1) := by decide +kernel
theorem dX3_unitFor_2 : decode cX3_unitFor 2 = .ok (.iconst 0, 1) := by decide +kernel
theorem dX3_unitFor_3 : decode cX3_unitFor 3 = .ok (.invokevirtual 101, 3) := by decide +kernel
theorem dX3_unitFor_6 : decode cX3_unitFor 6 = .ok (.istore_n 3, 1) := by decide +kernel
theorem dX3_unitFor_7 : decode cX3_unitFor 7 = .ok (.iconst 0, 1) := by decide +kernel
theorem dX3_unitFor_8 : decode cX3_unitFor 8 = .ok (.istore 4, 2) := by decide +kernel
theorem dX3_unitFor_10 : decode cX3_unitFor 10 = .ok (.iload 4, 2) := by decide +kernel
theorem dX3_unitFor_12 : decode cX3_unitFor 12 = .ok (.aload_n 0, 1) := by decide +kernel
theorem dX3_unitFor_13 : decode cX3_unitFor 13 = .ok (.getfield 50, 3) := by decide +kernel
theorem dX3_unitFor_16 : decode cX3_unitFor 16 = .ok (.if_icmp .ge 51, 3) := by decide +kernel
theorem dX3_unitFor_19 : decode cX3_unitFor 19 = .ok (.aload_n 0, 1) := by decide +kernel
theorem dX3_unitFor_20 : decode cX3_unitFor 20 = .ok (.getfield 11, 3) := by decide +kernel
theorem dX3_unitFor_23 : decode cX3_unitFor 23 = .ok (.iload 4, 2) := by decide +kernel
theorem dX3_unitFor_25 : decode cX3_unitFor 25 = .ok (.aaload, 1) := by decide +kernel
theorem dX3_unitFor_26 : decode cX3_unitFor 26 = .ok (.astore 5, 2) := by decide +kernel
theorem dX3_unitFor_28 : decode cX3_unitFor 28 = .ok (.aload 5, 2) := by decide +kernel
theorem dX3_unitFor_30 : decode cX3_unitFor 30 = .ok (.getfield 105, 3) := by decide +kernel
theorem dX3_unitFor_33 : decode cX3_unitFor 33 = .ok (.iload_n 3, 1) := by decide +kernel
theorem dX3_unitFor_34 : decode cX3_unitFor 34 = .ok (.if_icmp .ne 27, 3) := by decide +kernel
theorem dX3_unitFor_37 : decode cX3_unitFor 37 = .ok (.aload 5, 2) := by decide +kernel
theorem dX3_unitFor_39 : decode cX3_unitFor 39 = .ok (.getfield 108, 3) := by decide +kernel
theorem dX3_unitFor_42 : decode cX3_unitFor 42 = .ok (.aload_n 1, 1) := by decide +kernel
theorem dX3_unitFor_43 : decode cX3_unitFor 43 = .ok (.getfield 111, 3) := by decide +kernel
theorem dX3_unitFor_46 : decode cX3_unitFor 46 = .ok (.if_icmp .lt 15, 3) := by decide +kernel
theorem dX3_unitFor_49 : decode cX3_unitFor 49 = .ok (.aload 5, 2) := by decide +kernel
theorem dX3_unitFor_51 : decode cX3_unitFor 51 = .ok (.iload_n 2, 1) := by decide +kernel
theorem dX3_unitFor_52 : decode cX3_unitFor 52 = .ok (.invokevirtual 94, 3) := by decide +kernel
theorem dX3_unitFor_55 : decode cX3_unitFor 55 = .ok (.ifCond .eq 6, 3) := by decide +kernel
theorem dX3_unitFor_58 : decode cX3_unitFor 58 = .ok (.iload 4, 2) := by decide +kernel
theorem dX3_unitFor_60 : decode cX3_unitFor 60 = .ok (.ireturn, 1) := by decide +kernel
theorem dX3_unitFor_61 : decode cX3_unitFor 61 = .ok (.iinc 4 1, 3) := by decide +kernel
theorem dX3_unitFor_64 : decode cX3_unitFor 64 = .ok (.goto (-54), 3) := by decide +kernel
theorem dX3_unitFor_67 : decode cX3_unitFor 67 = .ok (.iconst (-1), 1) := by decide +kernel
theorem dX3_unitFor_68 : decode cX3_unitFor 68 = .ok (.ireturn, 1) := by decide +kernel
theorem dX3_releaseUnit_0 : decode cX3_releaseUnit 0 = .ok (.aload_n 1, 1) := by decide +kernel
theorem dX3_releaseUnit_1 : decode cX3_releaseUnit 1 = .ok (.getfield 114, 3) := by decide +kernel
theorem dX3_releaseUnit_4 : decode cX3_releaseUnit 4 = .ok (.iconst (-1), 1) := by decide +kernel
theorem dX3_releaseUnit_5 : decode cX3_releaseUnit 5 = .ok (.if_icmp .ne 4, 3) := by decide +kernel
theorem dX3_releaseUnit_8 : decode cX3_releaseUnit 8 = .ok (.return_, 1) := by decide +kernel
theorem dX3_releaseUnit_9 : decode cX3_releaseUnit 9 = .ok (.aload_n 0, 1) := by decide +kernel
theorem dX3_releaseUnit_10 : decode cX3_releaseUnit 10 = .ok (.getfield 11, 3) := by decide +kernel
theorem dX3_releaseUnit_13 : decode cX3_releaseUnit 13 = .ok (.aload_n 1, 1) := by decide +kernel
theorem dX3_releaseUnit_14 : decode cX3_releaseUnit 14 = .ok (.getfield 114, 3) := by decide +kernel
theorem dX3_releaseUnit_17 : decode cX3_releaseUnit 17 = .ok (.aaload, 1) := by decide +kernel
theorem dX3_releaseUnit_18 : decode cX3_releaseUnit 18 = .ok (.iconst (-1), 1) := by decide +kernel
theorem dX3_releaseUnit_19 : decode cX3_releaseUnit 19 = .ok (.putfield 83, 3) := by decide +kernel
theorem dX3_releaseUnit_22 : decode cX3_releaseUnit 22 = .ok (.aload_n 0, 1) := by decide +kernel
theorem dX3_releaseUnit_23 : decode cX3_releaseUnit 23 = .ok (.getfield 11, 3) := by decide +kernel
theorem dX3_releaseUnit_26 : decode cX3_releaseUnit 26 = .ok (.aload_n 1, 1) := by decide +kernel
theorem dX3_releaseUnit_27 : decode cX3_releaseUnit 27 = .ok (.getfield 114, 3) := by decide +kernel
theorem dX3_releaseUnit_30 : decode cX3_releaseUnit 30 = .ok (.aaload, 1) := by decide +kernel
theorem dX3_releaseUnit_31 : decode cX3_releaseUnit 31 = .ok (.aload_n 0, 1) := by decide +kernel
theorem dX3_releaseUnit_32 : decode cX3_releaseUnit 32 = .ok (.getfield 40, 3) := by decide +kernel
theorem dX3_releaseUnit_35 : decode cX3_releaseUnit 35 = .ok (.putfield 117, 3) := by decide +kernel
theorem dX3_releaseUnit_38 : decode cX3_releaseUnit 38 = .ok (.aload_n 1, 1) := by decide +kernel
theorem dX3_releaseUnit_39 : decode cX3_releaseUnit 39 = .ok (.iconst (-1), 1) := by decide +kernel
theorem dX3_releaseUnit_40 : decode cX3_releaseUnit 40 = .ok (.putfield 114, 3) := by decide +kernel
theorem dX3_releaseUnit_43 : decode cX3_releaseUnit 43 = .ok (.return_, 1) := by decide +kernel
theorem dX3_releasePieces_0 : decode cX3_releasePieces 0 = .ok (.iconst 0, 1) := by decide +kernel
theorem dX3_releasePieces_1 : decode cX3_releasePieces 1 = .ok (.istore_n 2, 1) := by decide +kernel
theorem dX3_releasePieces_2 : decode cX3_releasePieces 2 = .ok (.iload_n 2, 1) := by decide +kernel
theorem dX3_releasePieces_3 : decode cX3_releasePieces 3 = .ok (.iconst 3, 1) := by decide +kernel
theorem dX3_releasePieces_4 : decode cX3_releasePieces 4 = .ok (.if_icmp .ge 26, 3) := by decide +kernel
theorem dX3_releasePieces_7 : decode cX3_releasePieces 7 = .ok (.aload_n 0, 1) := by decide +kernel
theorem dX3_releasePieces_8 : decode cX3_releasePieces 8 = .ok (.getfield 23, 3) := by decide +kernel
theorem dX3_releasePieces_11 : decode cX3_releasePieces 11 = .ok (.iload_n 2, 1) := by decide +kernel
theorem dX3_releasePieces_12 : decode cX3_releasePieces 12 = .ok (.iaload, 1) := by decide +kernel
theorem dX3_releasePieces_13 : decode cX3_releasePieces 13 = .ok (.iload_n 1, 1) := by decide +kernel
theorem dX3_releasePieces_14 : decode cX3_releasePieces 14 = .ok (.if_icmp .ne 10, 3) := by decide +kernel
theorem dX3_releasePieces_17 : decode cX3_releasePieces 17 = .ok (.aload_n 0, 1) := by decide +kernel
theorem dX3_releasePieces_18 : decode cX3_releasePieces 18 = .ok (.getfield 23, 3) := by decide +kernel
theorem dX3_releasePieces_21 : decode cX3_releasePieces 21 = .ok (.iload_n 2, 1) := by decide +kernel
theorem dX3_releasePieces_22 : decode cX3_releasePieces 22 = .ok (.iconst (-1), 1) := by decide +kernel
theorem dX3_releasePieces_23 : decode cX3_releasePieces 23 = .ok (.iastore, 1) := by decide +kernel
theorem dX3_releasePieces_24 : decode cX3_releasePieces 24 = .ok (.iinc 2 1, 3) := by decide +kernel
theorem dX3_releasePieces_27 : decode cX3_releasePieces 27 = .ok (.goto (-25), 3) := by decide +kernel
theorem dX3_releasePieces_30 : decode cX3_releasePieces 30 = .ok (.return_, 1) := by decide +kernel
theorem dX3_addBatch_0 : decode cX3_addBatch 0 = .ok (.aload_n 0, 1) := by decide +kernel
theorem dX3_addBatch_1 : decode cX3_addBatch 1 = .ok (.getfield 57, 3) := by decide +kernel
theorem dX3_addBatch_4 : decode cX3_addBatch 4 = .ok (.istore 5, 2) := by decide +kernel
theorem dX3_addBatch_6 : decode cX3_addBatch 6 = .ok (.aload_n 0, 1) := by decide +kernel
theorem dX3_addBatch_7 : decode cX3_addBatch 7 = .ok (.getfield 19, 3) := by decide +kernel
theorem dX3_addBatch_10 : decode cX3_addBatch 10 = .ok (.iload 5, 2) := by decide +kernel
theorem dX3_addBatch_12 : decode cX3_addBatch 12 = .ok (.aaload, 1) := by decide +kernel
theorem dX3_addBatch_13 : decode cX3_addBatch 13 = .ok (.iload_n 1, 1) := by decide +kernel
theorem dX3_addBatch_14 : decode cX3_addBatch 14 = .ok (.aload_n 0, 1) := by decide +kernel
theorem dX3_addBatch_15 : decode cX3_addBatch 15 = .ok (.getfield 27, 3) := by decide +kernel
theorem dX3_addBatch_18 : decode cX3_addBatch 18 = .ok (.iload_n 1, 1) := by decide +kernel
theorem dX3_addBatch_19 : decode cX3_addBatch 19 = .ok (.iaload, 1) := by decide +kernel
theorem dX3_addBatch_20 : decode cX3_addBatch 20 = .ok (.iload_n 2, 1) := by decide +kernel
theorem dX3_addBatch_21 : decode cX3_addBatch 21 = .ok (.iload_n 3, 1) := by decide +kernel
theorem dX3_addBatch_22 : decode cX3_addBatch 22 = .ok (.iload 4, 2) := by decide +kernel
theorem dX3_addBatch_24 : decode cX3_addBatch 24 = .ok (.invokevirtual 118, 3) := by decide +kernel
theorem dX3_addBatch_27 : decode cX3_addBatch 27 = .ok (.aload_n 0, 1) := by decide +kernel
theorem dX3_addBatch_28 : decode cX3_addBatch 28 = .ok (.dup, 1) := by decide +kernel
theorem dX3_addBatch_29 : decode cX3_addBatch 29 = .ok (.getfield 57, 3) := by decide +kernel
theorem dX3_addBatch_32 : decode cX3_addBatch 32 = .ok (.iconst 1, 1) := by decide +kernel
theorem dX3_addBatch_33 : decode cX3_addBatch 33 = .ok (.iadd, 1) := by decide +kernel
theorem dX3_addBatch_34 : decode cX3_addBatch 34 = .ok (.putfield 57, 3) := by decide +kernel
theorem dX3_addBatch_37 : decode cX3_addBatch 37 = .ok (.iload 5, 2) := by decide +kernel
theorem dX3_addBatch_39 : decode cX3_addBatch 39 = .ok (.ireturn, 1) := by decide +kernel
theorem dX3_batchesIn_0 : decode cX3_batchesIn 0 = .ok (.iconst 0, 1) := by decide +kernel
theorem dX3_batchesIn_1 : decode cX3_batchesIn 1 = .ok (.istore_n 2, 1) := by decide +kernel
theorem dX3_batchesIn_2 : decode cX3_batchesIn 2 = .ok (.iconst 0, 1) := by decide +kernel
theorem dX3_batchesIn_3 : decode cX3_batchesIn 3 = .ok (.istore_n 3, 1) := by decide +kernel
theorem dX3_batchesIn_4 : decode cX3_batchesIn 4 = .ok (.iload_n 3, 1) := by decide +kernel
theorem dX3_batchesIn_5 : decode cX3_batchesIn 5 = .ok (.aload_n 0, 1) := by decide +kernel
theorem dX3_batchesIn_6 : decode cX3_batchesIn 6 = .ok (.getfield 57, 3) := by decide +kernel
theorem dX3_batchesIn_9 : decode cX3_batchesIn 9 = .ok (.if_icmp .ge 25, 3) := by decide +kernel
theorem dX3_batchesIn_12 : decode cX3_batchesIn 12 = .ok (.aload_n 0, 1) := by decide +kernel
theorem dX3_batchesIn_13 : decode cX3_batchesIn 13 = .ok (.getfield 19, 3) := by decide +kernel
theorem dX3_batchesIn_16 : decode cX3_batchesIn 16 = .ok (.iload_n 3, 1) := by decide +kernel
theorem dX3_batchesIn_17 : decode cX3_batchesIn 17 = .ok (.aaload, 1) := by decide +kernel
theorem dX3_batchesIn_18 : decode cX3_batchesIn 18 = .ok (.getfield 121, 3) := by decide +kernel
theorem dX3_batchesIn_21 : decode cX3_batchesIn 21 = .ok (.iload_n 1, 1) := by decide +kernel
theorem dX3_batchesIn_22 : decode cX3_batchesIn 22 = .ok (.if_icmp .ne 6, 3) := by decide +kernel
theorem dX3_batchesIn_25 : decode cX3_batchesIn 25 = .ok (.iinc 2 1, 3) := by decide +kernel
theorem dX3_batchesIn_28 : decode cX3_batchesIn 28 = .ok (.iinc 3 1, 3) := by decide +kernel
theorem dX3_batchesIn_31 : decode cX3_batchesIn 31 = .ok (.goto (-27), 3) := by decide +kernel
theorem dX3_batchesIn_34 : decode cX3_batchesIn 34 = .ok (.iload_n 2, 1) := by decide +kernel
theorem dX3_batchesIn_35 : decode cX3_batchesIn 35 = .ok (.ireturn, 1) := by decide +kernel
theorem dX3_isGivenUp_0 : decode cX3_isGivenUp 0 = .ok (.iload_n 1, 1) := by decide +kernel
theorem dX3_isGivenUp_1 : decode cX3_isGivenUp 1 = .ok (.iconst (-1), 1) := by decide +kernel
theorem dX3_isGivenUp_2 : decode cX3_isGivenUp 2 = .ok (.if_icmp .ne 5, 3) := by decide +kernel
theorem dX3_isGivenUp_5 : decode cX3_isGivenUp 5 = .ok (.iconst 0, 1) := by decide +kernel
theorem dX3_isGivenUp_6 : decode cX3_isGivenUp 6 = .ok (.ireturn, 1) := by decide +kernel
theorem dX3_isGivenUp_7 : decode cX3_isGivenUp 7 = .ok (.aload_n 0, 1) := by decide +kernel
theorem dX3_isGivenUp_8 : decode cX3_isGivenUp 8 = .ok (.getfield 19, 3) := by decide +kernel
theorem dX3_isGivenUp_11 : decode cX3_isGivenUp 11 = .ok (.iload_n 1, 1) := by decide +kernel
theorem dX3_isGivenUp_12 : decode cX3_isGivenUp 12 = .ok (.aaload, 1) := by decide +kernel
theorem dX3_isGivenUp_13 : decode cX3_isGivenUp 13 = .ok (.getfield 121, 3) := by decide +kernel
theorem dX3_isGivenUp_16 : decode cX3_isGivenUp 16 = .ok (.iconst 4, 1) := by decide +kernel
theorem dX3_isGivenUp_17 : decode cX3_isGivenUp 17 = .ok (.if_icmp .eq 16, 3) := by decide +kernel
theorem dX3_isGivenUp_20 : decode cX3_isGivenUp 20 = .ok (.aload_n 0, 1) := by decide +kernel
theorem dX3_isGivenUp_21 : decode cX3_isGivenUp 21 = .ok (.getfield 19, 3) := by decide +kernel
theorem dX3_isGivenUp_24 : decode cX3_isGivenUp 24 = .ok (.iload_n 1, 1) := by decide +kernel
theorem dX3_isGivenUp_25 : decode cX3_isGivenUp 25 = .ok (.aaload, 1) := by decide +kernel
theorem dX3_isGivenUp_26 : decode cX3_isGivenUp 26 = .ok (.getfield 121, 3) := by decide +kernel
theorem dX3_isGivenUp_29 : decode cX3_isGivenUp 29 = .ok (.iconst 5, 1) := by decide +kernel
theorem dX3_isGivenUp_30 : decode cX3_isGivenUp 30 = .ok (.if_icmp .ne 7, 3) := by decide +kernel
theorem dX3_isGivenUp_33 : decode cX3_isGivenUp 33 = .ok (.iconst 1, 1) := by decide +kernel
theorem dX3_isGivenUp_34 : decode cX3_isGivenUp 34 = .ok (.goto 4, 3) := by decide +kernel
theorem dX3_isGivenUp_37 : decode cX3_isGivenUp 37 = .ok (.iconst 0, 1) := by decide +kernel
theorem dX3_isGivenUp_38 : decode cX3_isGivenUp 38 = .ok (.ireturn, 1) := by decide +kernel
theorem dX3_hasBrokenUnit_0 : decode cX3_hasBrokenUnit 0 = .ok (.aload_n 0, 1) := by decide +kernel
theorem dX3_hasBrokenUnit_1 : decode cX3_hasBrokenUnit 1 = .ok (.getfield 19, 3) := by decide +kernel
theorem dX3_hasBrokenUnit_4 : decode cX3_hasBrokenUnit 4 = .ok (.iload_n 1, 1) := by decide +kernel
theorem dX3_hasBrokenUnit_5 : decode cX3_hasBrokenUnit 5 = .ok (.aaload, 1) := by decide +kernel
theorem dX3_hasBrokenUnit_6 : decode cX3_hasBrokenUnit 6 = .ok (.getfield 114, 3) := by decide +kernel
theorem dX3_hasBrokenUnit_9 : decode cX3_hasBrokenUnit 9 = .ok (.istore_n 2, 1) := by decide +kernel
theorem dX3_hasBrokenUnit_10 : decode cX3_hasBrokenUnit 10 = .ok (.iload_n 2, 1) := by decide +kernel
theorem dX3_hasBrokenUnit_11 : decode cX3_hasBrokenUnit 11 = .ok (.iconst (-1), 1) := by decide +kernel
theorem dX3_hasBrokenUnit_12 : decode cX3_hasBrokenUnit 12 = .ok (.if_icmp .eq 19, 3) := by decide +kernel
theorem dX3_hasBrokenUnit_15 : decode cX3_hasBrokenUnit 15 = .ok (.aload_n 0, 1) := by decide +kernel
theorem dX3_hasBrokenUnit_16 : decode cX3_hasBrokenUnit 16 = .ok (.getfield 11, 3) := by decide +kernel
theorem dX3_hasBrokenUnit_19 : decode cX3_hasBrokenUnit 19 = .ok (.iload_n 2, 1) := by decide +kernel
theorem dX3_hasBrokenUnit_20 : decode cX3_hasBrokenUnit 20 = .ok (.aaload, 1) := by decide +kernel
theorem dX3_hasBrokenUnit_21 : decode cX3_hasBrokenUnit 21 = .ok (.getfield 79, 3) := by decide +kernel
theorem dX3_hasBrokenUnit_24 : decode cX3_hasBrokenUnit 24 = .ok (.ifCond .eq 7, 3) := by decide +kernel
theorem dX3_hasBrokenUnit_27 : decode cX3_hasBrokenUnit 27 = .ok (.iconst 1, 1) := by decide +kernel
theorem dX3_hasBrokenUnit_28 : decode cX3_hasBrokenUnit 28 = .ok (.goto 4, 3) := by decide +kernel
theorem dX3_hasBrokenUnit_31 : decode cX3_hasBrokenUnit 31 = .ok (.iconst 0, 1) := by decide +kernel
theorem dX3_hasBrokenUnit_32 : decode cX3_hasBrokenUnit 32 = .ok (.ireturn, 1) := by decide +kernel
theorem dX3_ticksLeft_0 : decode cX3_ticksLeft 0 = .ok (.aload_n 0, 1) := by decide +kernel
theorem dX3_ticksLeft_1 : decode cX3_ticksLeft 1 = .ok (.aload_n 0, 1) := by decide +kernel
theorem dX3_ticksLeft_2 : decode cX3_ticksLeft 2 = .ok (.getfield 19, 3) := by decide +kernel
theorem dX3_ticksLeft_5 : decode cX3_ticksLeft 5 = .ok (.iload_n 1, 1) := by decide +kernel
theorem dX3_ticksLeft_6 : decode cX3_ticksLeft 6 = .ok (.aaload, 1) := by decide +kernel
theorem dX3_ticksLeft_7 : decode cX3_ticksLeft 7 = .ok (.iconst 1, 1) := by decide +kernel
theorem dX3_ticksLeft_8 : decode cX3_ticksLeft 8 = .ok (.invokevirtual 101, 3) := by decide +kernel
theorem dX3_ticksLeft_11 : decode cX3_ticksLeft 11 = .ok (.aload_n 0, 1) := by decide +kernel
theorem dX3_ticksLeft_12 : decode cX3_ticksLeft 12 = .ok (.getfield 19, 3) := by decide +kernel
theorem dX3_ticksLeft_15 : decode cX3_ticksLeft 15 = .ok (.iload_n 1, 1) := by decide +kernel
theorem dX3_ticksLeft_16 : decode cX3_ticksLeft 16 = .ok (.aaload, 1) := by decide +kernel
theorem dX3_ticksLeft_17 : decode cX3_ticksLeft 17 = .ok (.getfield 124, 3) := by decide +kernel
theorem dX3_ticksLeft_20 : decode cX3_ticksLeft 20 = .ok (.isub, 1) := by decide +kernel
theorem dX3_ticksLeft_21 : decode cX3_ticksLeft 21 = .ok (.ireturn, 1) := by decide +kernel
theorem dX3_valueOf_0 : decode cX3_valueOf 0 = .ok (.aload_n 0, 1) := by decide +kernel
theorem dX3_valueOf_1 : decode cX3_valueOf 1 = .ok (.getfield 44, 3) := by decide +kernel
theorem dX3_valueOf_4 : decode cX3_valueOf 4 = .ok (.aload_n 1, 1) := by decide +kernel
theorem dX3_valueOf_5 : decode cX3_valueOf 5 = .ok (.getfield 127, 3) := by decide +kernel
theorem dX3_valueOf_8 : decode cX3_valueOf 8 = .ok (.aload_n 1, 1) := by decide +kernel
theorem dX3_valueOf_9 : decode cX3_valueOf 9 = .ok (.getfield 130, 3) := by decide +kernel
theorem dX3_valueOf_12 : decode cX3_valueOf 12 = .ok (.invokestatic 133, 3) := by decide +kernel
theorem dX3_valueOf_15 : decode cX3_valueOf 15 = .ok (.aload_n 1, 1) := by decide +kernel
theorem dX3_valueOf_16 : decode cX3_valueOf 16 = .ok (.getfield 139, 3) := by decide +kernel
theorem dX3_valueOf_19 : decode cX3_valueOf 19 = .ok (.iload_n 2, 1) := by decide +kernel
theorem dX3_valueOf_20 : decode cX3_valueOf 20 = .ok (.invokevirtual 142, 3) := by decide +kernel
theorem dX3_valueOf_23 : decode cX3_valueOf 23 = .ok (.ireturn, 1) := by decide +kernel
theorem dX3_holdBatch_0 : decode cX3_holdBatch 0 = .ok (.aload_n 0, 1) := by decide +kernel
theorem dX3_holdBatch_1 : decode cX3_holdBatch 1 = .ok (.iload_n 1, 1) := by decide +kernel
theorem dX3_holdBatch_2 : decode cX3_holdBatch 2 = .ok (.invokevirtual 146, 3) := by decide +kernel
theorem dX3_holdBatch_5 : decode cX3_holdBatch 5 = .ok (.aload_n 0, 1) := by decide +kernel
theorem dX3_holdBatch_6 : decode cX3_holdBatch 6 = .ok (.getfield 19, 3) := by decide +kernel
theorem dX3_holdBatch_9 : decode cX3_holdBatch 9 = .ok (.iload_n 1, 1) := by decide +kernel
theorem dX3_holdBatch_10 : decode cX3_holdBatch 10 = .ok (.aaload, 1) := by decide +kernel
theorem dX3_holdBatch_11 : decode cX3_holdBatch 11 = .ok (.iconst 2, 1) := by decide +kernel
theorem dX3_holdBatch_12 : decode cX3_holdBatch 12 = .ok (.putfield 121, 3) := by decide +kernel
theorem dX3_holdBatch_15 : decode cX3_holdBatch 15 = .ok (.aload_n 0, 1) := by decide +kernel
theorem dX3_holdBatch_16 : decode cX3_holdBatch 16 = .ok (.getfield 33, 3) := by decide +kernel
theorem dX3_holdBatch_19 : decode cX3_holdBatch 19 = .ok (.aload_n 0, 1) := by decide +kernel
theorem dX3_holdBatch_20 : decode cX3_holdBatch 20 = .ok (.getfield 72, 3) := by decide +kernel
theorem dX3_holdBatch_23 : decode cX3_holdBatch 23 = .ok (.iload_n 1, 1) := by decide +kernel
theorem dX3_holdBatch_24 : decode cX3_holdBatch 24 = .ok (.iconst 2, 1) := by decide +kernel
theorem dX3_holdBatch_25 : decode cX3_holdBatch 25 = .ok (.invokevirtual 149, 3) := by decide +kernel
theorem dX3_holdBatch_28 : decode cX3_holdBatch 28 = .ok (.return_, 1) := by decide +kernel
theorem dX3_restartBatch_0 : decode cX3_restartBatch 0 = .ok (.aload_n 0, 1) := by decide +kernel
theorem dX3_restartBatch_1 : decode cX3_restartBatch 1 = .ok (.getfield 19, 3) := by decide +kernel
theorem dX3_restartBatch_4 : decode cX3_restartBatch 4 = .ok (.iload_n 1, 1) := by decide +kernel
theorem dX3_restartBatch_5 : decode cX3_restartBatch 5 = .ok (.aaload, 1) := by decide +kernel
theorem dX3_restartBatch_6 : decode cX3_restartBatch 6 = .ok (.astore_n 2, 1) := by decide +kernel
theorem dX3_restartBatch_7 : decode cX3_restartBatch 7 = .ok (.aload_n 0, 1) := by decide +kernel
theorem dX3_restartBatch_8 : decode cX3_restartBatch 8 = .ok (.aload_n 2, 1) := by decide +kernel
theorem dX3_restartBatch_9 : decode cX3_restartBatch 9 = .ok (.iconst 4, 1) := by decide +kernel
theorem dX3_restartBatch_10 : decode cX3_restartBatch 10 = .ok (.invokevirtual 101, 3) := by decide +kernel
theorem dX3_restartBatch_13 : decode cX3_restartBatch 13 = .ok (.iconst 1, 1) := by decide +kernel
theorem dX3_restartBatch_14 : decode cX3_restartBatch 14 = .ok (.if_icmp .ne 8, 3) := by decide +kernel
theorem dX3_restartBatch_17 : decode cX3_restartBatch 17 = .ok (.aload_n 2, 1) := by decide +kernel
theorem dX3_restartBatch_18 : decode cX3_restartBatch 18 = .ok (.iconst 0, 1) := by decide +kernel
theorem dX3_restartBatch_19 : decode cX3_restartBatch 19 = .ok (.putfield 124, 3) := by decide +kernel
theorem dX3_restartBatch_22 : decode cX3_restartBatch 22 = .ok (.aload_n 2, 1) := by decide +kernel
theorem dX3_restartBatch_23 : decode cX3_restartBatch 23 = .ok (.iconst 1, 1) := by decide +kernel
theorem dX3_restartBatch_24 : decode cX3_restartBatch 24 = .ok (.putfield 121, 3) := by decide +kernel
theorem dX3_restartBatch_27 : decode cX3_restartBatch 27 = .ok (.aload_n 0, 1) := by decide +kernel
theorem dX3_restartBatch_28 : decode cX3_restartBatch 28 = .ok (.getfield 33, 3) := by decide +kernel
theorem dX3_restartBatch_31 : decode cX3_restartBatch 31 = .ok (.aload_n 0, 1) := by decide +kernel
theorem dX3_restartBatch_32 : decode cX3_restartBatch 32 = .ok (.getfield 72, 3) := by decide +kernel
theorem dX3_restartBatch_35 : decode cX3_restartBatch 35 = .ok (.iload_n 1, 1) := by decide +kernel
theorem dX3_restartBatch_36 : decode cX3_restartBatch 36 = .ok (.iconst 3, 1) := by decide +kernel
theorem dX3_restartBatch_37 : decode cX3_restartBatch 37 = .ok (.invokevirtual 149, 3) := by decide +kernel
theorem dX3_restartBatch_40 : decode cX3_restartBatch 40 = .ok (.return_, 1) := by decide +kernel
theorem dX3_stopBatch_0 : decode cX3_stopBatch 0 = .ok (.aload_n 0, 1) := by decide +kernel
theorem dX3_stopBatch_1 : decode cX3_stopBatch 1 = .ok (.getfield 19, 3) := by decide +kernel
theorem dX3_stopBatch_4 : decode cX3_stopBatch 4 = .ok (.iload_n 1, 1) := by decide +kernel
theorem dX3_stopBatch_5 : decode cX3_stopBatch 5 = .ok (.aaload, 1) := by decide +kernel
theorem dX3_stopBatch_6 : decode cX3_stopBatch 6 = .ok (.astore_n 2, 1) := by decide +kernel
theorem dX3_stopBatch_7 : decode cX3_stopBatch 7 = .ok (.aload_n 2, 1) := by decide +kernel
theorem dX3_stopBatch_8 : decode cX3_stopBatch 8 = .ok (.getfield 121, 3) := by decide +kernel
theorem dX3_stopBatch_11 : decode cX3_stopBatch 11 = .ok (.iconst 1, 1) := by decide +kernel
theorem dX3_stopBatch_12 : decode cX3_stopBatch 12 = .ok (.if_icmp .ne 18, 3) := by decide +kernel
theorem dX3_stopBatch_15 : decode cX3_stopBatch 15 = .ok (.aload_n 2, 1) := by decide +kernel
theorem dX3_stopBatch_16 : decode cX3_stopBatch 16 = .ok (.invokevirtual 153, 3) := by decide +kernel
theorem dX3_stopBatch_19 : decode cX3_stopBatch 19 = .ok (.ifCond .eq 11, 3) := by decide +kernel
theorem dX3_stopBatch_22 : decode cX3_stopBatch 22 = .ok (.aload_n 2, 1) := by decide +kernel
theorem dX3_stopBatch_23 : decode cX3_stopBatch 23 = .ok (.iconst 3, 1) := by decide +kernel
theorem dX3_stopBatch_24 : decode cX3_stopBatch 24 = .ok (.putfield 121, 3) := by decide +kernel
theorem dX3_stopBatch_27 : decode cX3_stopBatch 27 = .ok (.goto 10, 3) := by decide +kernel
theorem dX3_stopBatch_30 : decode cX3_stopBatch 30 = .ok (.aload_n 0, 1) := by decide +kernel
theorem dX3_stopBatch_31 : decode cX3_stopBatch 31 = .ok (.iload_n 1, 1) := by decide +kernel
theorem dX3_stopBatch_32 : decode cX3_stopBatch 32 = .ok (.iconst 4, 1) := by decide +kernel
theorem dX3_stopBatch_33 : decode cX3_stopBatch 33 = .ok (.iconst 4, 1) := by decide +kernel
theorem dX3_stopBatch_34 : decode cX3_stopBatch 34 = .ok (.invokevirtual 156, 3) := by decide +kernel
theorem dX3_stopBatch_37 : decode cX3_stopBatch 37 = .ok (.return_, 1) := by decide +kernel
theorem dX3_abortWithFollowing_0 : decode cX3_abortWithFollowing 0 = .ok (.aload_n 0, 1) := by decide +kernel
theorem dX3_abortWithFollowing_1 : decode cX3_abortWithFollowing 1 = .ok (.iload_n 1, 1) := by decide +kernel
theorem dX3_abortWithFollowing_2 : decode cX3_abortWithFollowing 2 = .ok (.iconst 5, 1) := by decide +kernel
theorem dX3_abortWithFollowing_3 : decode cX3_abortWithFollowing 3 = .ok (.iconst 5, 1) := by decide +kernel
theorem dX3_abortWithFollowing_4 : decode cX3_abortWithFollowing 4 = .ok (.invokevirtual 156, 3) := by decide +kernel
theorem dX3_abortWithFollowing_7 : decode cX3_abortWithFollowing 7 = .ok (.iconst 1, 1) := by decide +kernel
theorem dX3_abortWithFollowing_8 : decode cX3_abortWithFollowing 8 = .ok (.istore_n 2, 1) := by decide +kernel
theorem dX3_abortWithFollowing_9 : decode cX3_abortWithFollowing 9 = .ok (.iload_n 1, 1) := by decide +kernel
theorem dX3_abortWithFollowing_10 : decode cX3_abortWithFollowing 10 = .ok (.iconst 1, 1) := by decide +kernel
theorem dX3_abortWithFollowing_11 : decode cX3_abortWithFollowing 11 = .ok (.iadd, 1) := by decide +kernel
theorem dX3_abortWithFollowing_12 : decode cX3_abortWithFollowing 12 = .ok (.istore_n 3, 1) := by decide +kernel
theorem dX3_abortWithFollowing_13 : decode cX3_abortWithFollowing 13 = .ok (.iload_n 3, 1) := by decide +kernel
theorem dX3_abortWithFollowing_14 : decode cX3_abortWithFollowing 14 = .ok (.aload_n 0, 1) := by decide +kernel
theorem dX3_abortWithFollowing_15 : decode cX3_abortWithFollowing 15 = .ok (.getfield 57, 3) := by decide +kernel
theorem dX3_abortWithFollowing_18 : decode cX3_abortWithFollowing 18 = .ok (.if_icmp .ge 62, 3) := by decide +kernel
theorem dX3_abortWithFollowing_21 : decode cX3_abortWithFollowing 21 = .ok (.aload_n 0, 1) := by decide +kernel
theorem dX3_abortWithFollowing_22 : decode cX3_abortWithFollowing 22 = .ok (.getfield 19, 3) := by decide +kernel
theorem dX3_abortWithFollowing_25 : decode cX3_abortWithFollowing 25 = .ok (.iload_n 3, 1) := by decide +kernel
theorem dX3_abortWithFollowing_26 : decode cX3_abortWithFollowing 26 = .ok (.aaload, 1) := by decide +kernel
theorem dX3_abortWithFollowing_27 : decode cX3_abortWithFollowing 27 = .ok (.getfield 159, 3) := by decide +kernel
theorem dX3_abortWithFollowing_30 : decode cX3_abortWithFollowing 30 = .ok (.istore 4, 2) := by decide +kernel
theorem dX3_abortWithFollowing_32 : decode cX3_abortWithFollowing 32 = .ok (.iload 4, 2) := by decide +kernel
theorem dX3_abortWithFollowing_34 : decode cX3_abortWithFollowing 34 = .ok (.iconst (-1), 1) := by decide +kernel
theorem dX3_abortWithFollowing_35 : decode cX3_abortWithFollowing 35 = .ok (.if_icmp .eq 39, 3) := by decide +kernel
theorem dX3_abortWithFollowing_38 : decode cX3_abortWithFollowing 38 = .ok (.aload_n 0, 1) := by decide +kernel
theorem dX3_abortWithFollowing_39 : decode cX3_abortWithFollowing 39 = .ok (.getfield 19, 3) := by decide +kernel
theorem dX3_abortWithFollowing_42 : decode cX3_abortWithFollowing 42 = .ok (.iload 4, 2) := by decide +kernel
theorem dX3_abortWithFollowing_44 : decode cX3_abortWithFollowing 44 = .ok (.aaload, 1) := by decide +kernel
theorem dX3_abortWithFollowing_45 : decode cX3_abortWithFollowing 45 = .ok (.getfield 121, 3) := by decide +kernel
theorem dX3_abortWithFollowing_48 : decode cX3_abortWithFollowing 48 = .ok (.iconst 5, 1) := by decide +kernel
theorem dX3_abortWithFollowing_49 : decode cX3_abortWithFollowing 49 = .ok (.if_icmp .ne 25, 3) := by decide +kernel
theorem dX3_abortWithFollowing_52 : decode cX3_abortWithFollowing 52 = .ok (.aload_n 0, 1) := by decide +kernel
theorem dX3_abortWithFollowing_53 : decode cX3_abortWithFollowing 53 = .ok (.getfield 19, 3) := by decide +kernel
theorem dX3_abortWithFollowing_56 : decode cX3_abortWithFollowing 56 = .ok (.iload_n 3, 1) := by decide +kernel
theorem dX3_abortWithFollowing_57 : decode cX3_abortWithFollowing 57 = .ok (.aaload, 1) := by decide +kernel
theorem dX3_abortWithFollowing_58 : decode cX3_abortWithFollowing 58 = .ok (.invokevirtual 162, 3) := by decide +kernel
theorem dX3_abortWithFollowing_61 : decode cX3_abortWithFollowing 61 = .ok (.ifCond .ne 13, 3) := by decide +kernel
theorem dX3_abortWithFollowing_64 : decode cX3_abortWithFollowing 64 = .ok (.aload_n 0, 1) := by decide +kernel
theorem dX3_abortWithFollowing_65 : decode cX3_abortWithFollowing 65 = .ok (.iload_n 3, 1) := by decide +kernel
theorem dX3_abortWithFollowing_66 : decode cX3_abortWithFollowing 66 = .ok (.iconst 5, 1) := by decide +kernel
theorem dX3_abortWithFollowing_67 : decode cX3_abortWithFollowing 67 = .ok (.iconst 5, 1) := by decide +kernel
theorem dX3_abortWithFollowing_68 : decode cX3_abortWithFollowing 68 = .ok (.invokevirtual 156, 3) := by decide +kernel
theorem dX3_abortWithFollowing_71 : decode cX3_abortWithFollowing 71 = .ok (.iinc 2 1, 3) := by decide +kernel
theorem dX3_abortWithFollowing_74 : decode cX3_abortWithFollowing 74 = .ok (.iinc 3 1, 3) := by decide +kernel
theorem dX3_abortWithFollowing_77 : decode cX3_abortWithFollowing 77 = .ok (.goto (-64), 3) := by decide +kernel
theorem dX3_abortWithFollowing_80 : decode cX3_abortWithFollowing 80 = .ok (.iload_n 2, 1) := by decide +kernel
theorem dX3_abortWithFollowing_81 : decode cX3_abortWithFollowing 81 = .ok (.ireturn, 1) := by decide +kernel
theorem dX3_bringToEnd_0 : decode cX3_bringToEnd 0 = .ok (.aload_n 0, 1) := by decide +kernel
theorem dX3_bringToEnd_1 : decode cX3_bringToEnd 1 = .ok (.iload_n 1, 1) := by decide +kernel
theorem dX3_bringToEnd_2 : decode cX3_bringToEnd 2 = .ok (.invokevirtual 146, 3) := by decide +kernel
theorem dX3_bringToEnd_5 : decode cX3_bringToEnd 5 = .ok (.aload_n 0, 1) := by decide +kernel
theorem dX3_bringToEnd_6 : decode cX3_bringToEnd 6 = .ok (.aload_n 0, 1) := by decide +kernel
theorem dX3_bringToEnd_7 : decode cX3_bringToEnd 7 = .ok (.getfield 19, 3) := by decide +kernel
theorem dX3_bringToEnd_10 : decode cX3_bringToEnd 10 = .ok (.iload_n 1, 1) := by decide +kernel
theorem dX3_bringToEnd_11 : decode cX3_bringToEnd 11 = .ok (.aaload, 1) := by decide +kernel
theorem dX3_bringToEnd_12 : decode cX3_bringToEnd 12 = .ok (.invokevirtual 165, 3) := by decide +kernel
theorem dX3_bringToEnd_15 : decode cX3_bringToEnd 15 = .ok (.aload_n 0, 1) := by decide +kernel
theorem dX3_bringToEnd_16 : decode cX3_bringToEnd 16 = .ok (.getfield 19, 3) := by decide +kernel
theorem dX3_bringToEnd_19 : decode cX3_bringToEnd 19 = .ok (.iload_n 1, 1) := by decide +kernel
theorem dX3_bringToEnd_20 : decode cX3_bringToEnd 20 = .ok (.aaload, 1) := by decide +kernel
theorem dX3_bringToEnd_21 : decode cX3_bringToEnd 21 = .ok (.iload_n 2, 1) := by decide +kernel
theorem dX3_bringToEnd_22 : decode cX3_bringToEnd 22 = .ok (.putfield 121, 3) := by decide +kernel
theorem dX3_bringToEnd_25 : decode cX3_bringToEnd 25 = .ok (.aload_n 0, 1) := by decide +kernel
theorem dX3_bringToEnd_26 : decode cX3_bringToEnd 26 = .ok (.getfield 33, 3) := by decide +kernel
theorem dX3_bringToEnd_29 : decode cX3_bringToEnd 29 = .ok (.aload_n 0, 1) := by decide +kernel
theorem dX3_bringToEnd_30 : decode cX3_bringToEnd 30 = .ok (.getfield 72, 3) := by decide +kernel
theorem dX3_bringToEnd_33 : decode cX3_bringToEnd 33 = .ok (.iload_n 1, 1) := by decide +kernel
theorem dX3_bringToEnd_34 : decode cX3_bringToEnd 34 = .ok (.iload_n 3, 1) := by decide +kernel
theorem dX3_bringToEnd_35 : decode cX3_bringToEnd 35 = .ok (.invokevirtual 149, 3) := by decide +kernel
theorem dX3_bringToEnd_38 : decode cX3_bringToEnd 38 = .ok (.return_, 1) := by decide +kernel
theorem dX3_arrange_0 : decode cX3_arrange 0 = .ok (.aload_n 0, 1) := by decide +kernel
theorem dX3_arrange_1 : decode cX3_arrange 1 = .ok (.iconst 0, 1) := by decide +kernel
theorem dX3_arrange_2 : decode cX3_arrange 2 = .ok (.putfield 168, 3) := by decide +kernel
theorem dX3_arrange_5 : decode cX3_arrange 5 = .ok (.iconst 0, 1) := by decide +kernel
theorem dX3_arrange_6 : decode cX3_arrange 6 = .ok (.istore_n 1, 1) := by decide +kernel
theorem dX3_arrange_7 : decode cX3_arrange 7 = .ok (.iload_n 1, 1) := by decide +kernel
theorem dX3_arrange_8 : decode cX3_arrange 8 = .ok (.aload_n 0, 1) := by decide +kernel
theorem dX3_arrange_9 : decode cX3_arrange 9 = .ok (.getfield 57, 3) := by decide +kernel
theorem dX3_arrange_12 : decode cX3_arrange 12 = .ok (.if_icmp .ge 26, 3) := by decide +kernel
theorem dX3_arrange_15 : decode cX3_arrange 15 = .ok (.aload_n 0, 1) := by decide +kernel
theorem dX3_arrange_16 : decode cX3_arrange 16 = .ok (.getfield 19, 3) := by decide +kernel
theorem dX3_arrange_19 : decode cX3_arrange 19 = .ok (.iload_n 1, 1) := by decide +kernel
theorem dX3_arrange_20 : decode cX3_arrange 20 = .ok (.aaload, 1) := by decide +kernel
theorem dX3_arrange_21 : decode cX3_arrange 21 = .ok (.invokevirtual 86, 3) := by decide +kernel
theorem dX3_arrange_24 : decode cX3_arrange 24 = .ok (.ifCond .eq 8, 3) := by decide +kernel
theorem dX3_arrange_27 : decode cX3_arrange 27 = .ok (.aload_n 0, 1) := by decide +kernel
theorem dX3_arrange_28 : decode cX3_arrange 28 = .ok (.iload_n 1, 1) := by decide +kernel
theorem dX3_arrange_29 : decode cX3_arrange 29 = .ok (.invokevirtual 171, 3) := by decide +kernel
theorem dX3_arrange_32 : decode cX3_arrange 32 = .ok (.iinc 1 1, 3) := by decide +kernel
theorem dX3_arrange_35 : decode cX3_arrange 35 = .ok (.goto (-28), 3) := by decide +kernel
theorem dX3_arrange_38 : decode cX3_arrange 38 = .ok (.return_, 1) := by decide +kernel
theorem dX3_insertInOrder_0 : decode cX3_insertInOrder 0 = .ok (.aload_n 0, 1) := by decide +kernel
theorem dX3_insertInOrder_1 : decode cX3_insertInOrder 1 = .ok (.getfield 168, 3) := by decide +kernel
theorem dX3_insertInOrder_4 : decode cX3_insertInOrder 4 = .ok (.istore_n 2, 1) := by decide +kernel
theorem dX3_insertInOrder_5 : decode cX3_insertInOrder 5 = .ok (.iload_n 2, 1) := by decide +kernel
theorem dX3_insertInOrder_6 : decode cX3_insertInOrder 6 = .ok (.ifCond .le 51, 3) := by decide +kernel
theorem dX3_insertInOrder_9 : decode cX3_insertInOrder 9 = .ok (.aload_n 0, 1) := by decide +kernel
theorem dX3_insertInOrder_10 : decode cX3_insertInOrder 10 = .ok (.getfield 19, 3) := by decide +kernel
theorem dX3_insertInOrder_13 : decode cX3_insertInOrder 13 = .ok (.aload_n 0, 1) := by decide +kernel
theorem dX3_insertInOrder_14 : decode cX3_insertInOrder 14 = .ok (.getfield 37, 3) := by decide +kernel
theorem dX3_insertInOrder_17 : decode cX3_insertInOrder 17 = .ok (.iload_n 2, 1) := by decide +kernel
theorem dX3_insertInOrder_18 : decode cX3_insertInOrder 18 = .ok (.iconst 1, 1) := by decide +kernel
theorem dX3_insertInOrder_19 : decode cX3_insertInOrder 19 = .ok (.isub, 1) := by decide +kernel
theorem dX3_insertInOrder_20 : decode cX3_insertInOrder 20 = .ok (.iaload, 1) := by decide +kernel
theorem dX3_insertInOrder_21 : decode cX3_insertInOrder 21 = .ok (.aaload, 1) := by decide +kernel
theorem dX3_insertInOrder_22 : decode cX3_insertInOrder 22 = .ok (.getfield 174, 3) := by decide +kernel
theorem dX3_insertInOrder_25 : decode cX3_insertInOrder 25 = .ok (.aload_n 0, 1) := by decide +kernel
theorem dX3_insertInOrder_26 : decode cX3_insertInOrder 26 = .ok (.getfield 19, 3) := by decide +kernel
theorem dX3_insertInOrder_29 : decode cX3_insertInOrder 29 = .ok (.iload_n 1, 1) := by decide +kernel
theorem dX3_insertInOrder_30 : decode cX3_insertInOrder 30 = .ok (.aaload, 1) := by decide +kernel
theorem dX3_insertInOrder_31 : decode cX3_insertInOrder 31 = .ok (.getfield 174, 3) := by decide +kernel
theorem dX3_insertInOrder_34 : decode cX3_insertInOrder 34 = .ok (.if_icmp .ge 23, 3) := by decide +kernel
theorem dX3_insertInOrder_37 : decode cX3_insertInOrder 37 = .ok (.aload_n 0, 1) := by decide +kernel
theorem dX3_insertInOrder_38 : decode cX3_insertInOrder 38 = .ok (.getfield 37, 3) := by decide +kernel
theorem dX3_insertInOrder_41 : decode cX3_insertInOrder 41 = .ok (.iload_n 2, 1) := by decide +kernel
theorem dX3_insertInOrder_42 : decode cX3_insertInOrder 42 = .ok (.aload_n 0, 1) := by decide +kernel
theorem dX3_insertInOrder_43 : decode cX3_insertInOrder 43 = .ok (.getfield 37, 3) := by decide +kernel
theorem dX3_insertInOrder_46 : decode cX3_insertInOrder 46 = .ok (.iload_n 2, 1) := by decide +kernel
theorem dX3_insertInOrder_47 : decode cX3_insertInOrder 47 = .ok (.iconst 1, 1) := by decide +kernel
theorem dX3_insertInOrder_48 : decode cX3_insertInOrder 48 = .ok (.isub, 1) := by decide +kernel
theorem dX3_insertInOrder_49 : decode cX3_insertInOrder 49 = .ok (.iaload, 1) := by decide +kernel
theorem dX3_insertInOrder_50 : decode cX3_insertInOrder 50 = .ok (.iastore, 1) := by decide +kernel
theorem dX3_insertInOrder_51 : decode cX3_insertInOrder 51 = .ok (.iinc 2 (-1), 3) := by decide +kernel
theorem dX3_insertInOrder_54 : decode cX3_insertInOrder 54 = .ok (.goto (-49), 3) := by decide +kernel
theorem dX3_insertInOrder_57 : decode cX3_insertInOrder 57 = .ok (.aload_n 0, 1) := by decide +kernel
theorem dX3_insertInOrder_58 : decode cX3_insertInOrder 58 = .ok (.getfield 37, 3) := by decide +kernel
theorem dX3_insertInOrder_61 : decode cX3_insertInOrder 61 = .ok (.iload_n 2, 1) := by decide +kernel
theorem dX3_insertInOrder_62 : decode cX3_insertInOrder 62 = .ok (.iload_n 1, 1) := by decide +kernel
theorem dX3_insertInOrder_63 : decode cX3_insertInOrder 63 = .ok (.iastore, 1) := by decide +kernel
theorem dX3_insertInOrder_64 : decode cX3_insertInOrder 64 = .ok (.aload_n 0, 1) := by decide +kernel
theorem dX3_insertInOrder_65 : decode cX3_insertInOrder 65 = .ok (.dup, 1) := by decide +kernel
theorem dX3_insertInOrder_66 : decode cX3_insertInOrder 66 = .ok (.getfield 168, 3) := by decide +kernel
theorem dX3_insertInOrder_69 : decode cX3_insertInOrder 69 = .ok (.iconst 1, 1) := by decide +kernel
theorem dX3_insertInOrder_70 : decode cX3_insertInOrder 70 = .ok (.iadd, 1) := by decide +kernel
theorem dX3_insertInOrder_71 : decode cX3_insertInOrder 71 = .ok (.putfield 168, 3) := by decide +kernel
theorem dX3_insertInOrder_74 : decode cX3_insertInOrder 74 = .ok (.return_, 1) := by decide +kernel
theorem dX3_passTick_0 : decode cX3_passTick 0 = .ok (.aload_n 0, 1) := by decide +kernel
theorem dX3_passTick_1 : decode cX3_passTick 1 = .ok (.invokevirtual 177, 3) := by decide +kernel
theorem dX3_passTick_4 : decode cX3_passTick 4 = .ok (.istore_n 1, 1) := by decide +kernel
theorem dX3_passTick_5 : decode cX3_passTick 5 = .ok (.iconst 0, 1) := by decide +kernel
theorem dX3_passTick_6 : decode cX3_passTick 6 = .ok (.istore_n 2, 1) := by decide +kernel
theorem dX3_passTick_7 : decode cX3_passTick 7 = .ok (.iload_n 2, 1) := by decide +kernel
theorem dX3_passTick_8 : decode cX3_passTick 8 = .ok (.aload_n 0, 1) := by decide +kernel
theorem dX3_passTick_9 : decode cX3_passTick 9 = .ok (.getfield 168, 3) := by decide +kernel
theorem dX3_passTick_12 : decode cX3_passTick 12 = .ok (.if_icmp .ge 38, 3) := by decide +kernel
theorem dX3_passTick_15 : decode cX3_passTick 15 = .ok (.aload_n 0, 1) := by decide +kernel
theorem dX3_passTick_16 : decode cX3_passTick 16 = .ok (.getfield 37, 3) := by decide +kernel
theorem dX3_passTick_19 : decode cX3_passTick 19 = .ok (.iload_n 2, 1) := by decide +kernel
theorem dX3_passTick_20 : decode cX3_passTick 20 = .ok (.iaload, 1) := by decide +kernel
theorem dX3_passTick_21 : decode cX3_passTick 21 = .ok (.istore_n 3, 1) := by decide +kernel
theorem dX3_passTick_22 : decode cX3_passTick 22 = .ok (.aload_n 0, 1) := by decide +kernel
theorem dX3_passTick_23 : decode cX3_passTick 23 = .ok (.getfield 19, 3) := by decide +kernel
theorem dX3_passTick_26 : decode cX3_passTick 26 = .ok (.iload_n 3, 1) := by decide +kernel
theorem dX3_passTick_27 : decode cX3_passTick 27 = .ok (.aaload, 1) := by decide +kernel
theorem dX3_passTick_28 : decode cX3_passTick 28 = .ok (.invokevirtual 86, 3) := by decide +kernel
theorem dX3_passTick_31 : decode cX3_passTick 31 = .ok (.ifCond .eq 13, 3) := by decide +kernel
theorem dX3_passTick_34 : decode cX3_passTick 34 = .ok (.aload_n 0, 1) := by decide +kernel
theorem dX3_passTick_35 : decode cX3_passTick 35 = .ok (.iload_n 3, 1) := by decide +kernel
theorem dX3_passTick_36 : decode cX3_passTick 36 = .ok (.invokevirtual 180, 3) := by decide +kernel
theorem dX3_passTick_39 : decode cX3_passTick 39 = .ok (.ifCond .eq 5, 3) := by decide +kernel
theorem dX3_passTick_42 : decode cX3_passTick 42 = .ok (.iconst 1, 1) := by decide +kernel
theorem dX3_passTick_43 : decode cX3_passTick 43 = .ok (.istore_n 1, 1) := by decide +kernel
theorem dX3_passTick_44 : decode cX3_passTick 44 = .ok (.iinc 2 1, 3) := by decide +kernel
theorem dX3_passTick_47 : decode cX3_passTick 47 = .ok (.goto (-40), 3) := by decide +kernel
theorem dX3_passTick_50 : decode cX3_passTick 50 = .ok (.aload_n 0, 1) := by decide +kernel
theorem dX3_passTick_51 : decode cX3_passTick 51 = .ok (.dup, 1) := by decide +kernel
theorem dX3_passTick_52 : decode cX3_passTick 52 = .ok (.getfield 72, 3) := by decide +kernel
theorem dX3_passTick_55 : decode cX3_passTick 55 = .ok (.iconst 1, 1) := by decide +kernel
theorem dX3_passTick_56 : decode cX3_passTick 56 = .ok (.iadd, 1) := by decide +kernel
theorem dX3_passTick_57 : decode cX3_passTick 57 = .ok (.putfield 72, 3) := by decide +kernel
theorem dX3_passTick_60 : decode cX3_passTick 60 = .ok (.iload_n 1, 1) := by decide +kernel
theorem dX3_passTick_61 : decode cX3_passTick 61 = .ok (.ireturn, 1) := by decide +kernel
theorem dX3_cleanUnits_0 : decode cX3_cleanUnits 0 = .ok (.iconst 0, 1) := by decide +kernel
theorem dX3_cleanUnits_1 : decode cX3_cleanUnits 1 = .ok (.istore_n 1, 1) := by decide +kernel
theorem dX3_cleanUnits_2 : decode cX3_cleanUnits 2 = .ok (.iconst 0, 1) := by decide +kernel
theorem dX3_cleanUnits_3 : decode cX3_cleanUnits 3 = .ok (.istore_n 2, 1) := by decide +kernel
theorem dX3_cleanUnits_4 : decode cX3_cleanUnits 4 = .ok (.iload_n 2, 1) := by decide +kernel
theorem dX3_cleanUnits_5 : decode cX3_cleanUnits 5 = .ok (.aload_n 0, 1) := by decide +kernel
theorem dX3_cleanUnits_6 : decode cX3_cleanUnits 6 = .ok (.getfield 50, 3) := by decide +kernel
theorem dX3_cleanUnits_9 : decode cX3_cleanUnits 9 = .ok (.if_icmp .ge 38, 3) := by decide +kernel
theorem dX3_cleanUnits_12 : decode cX3_cleanUnits 12 = .ok (.aload_n 0, 1) := by decide +kernel
theorem dX3_cleanUnits_13 : decode cX3_cleanUnits 13 = .ok (.getfield 11, 3) := by decide +kernel
theorem dX3_cleanUnits_16 : decode cX3_cleanUnits 16 = .ok (.iload_n 2, 1) := by decide +kernel
theorem dX3_cleanUnits_17 : decode cX3_cleanUnits 17 = .ok (.aaload, 1) := by decide +kernel
theorem dX3_cleanUnits_18 : decode cX3_cleanUnits 18 = .ok (.getfield 117, 3) := by decide +kernel
theorem dX3_cleanUnits_21 : decode cX3_cleanUnits 21 = .ok (.ifCond .le 20, 3) := by decide +kernel
theorem dX3_cleanUnits_24 : decode cX3_cleanUnits 24 = .ok (.aload_n 0, 1) := by decide +kernel
theorem dX3_cleanUnits_25 : decode cX3_cleanUnits 25 = .ok (.getfield 11, 3) := by decide +kernel
theorem dX3_cleanUnits_28 : decode cX3_cleanUnits 28 = .ok (.iload_n 2, 1) := by decide +kernel
theorem dX3_cleanUnits_29 : decode cX3_cleanUnits 29 = .ok (.aaload, 1) := by decide +kernel
theorem dX3_cleanUnits_30 : decode cX3_cleanUnits 30 = .ok (.dup, 1) := by decide +kernel
theorem dX3_cleanUnits_31 : decode cX3_cleanUnits 31 = .ok (.getfield 117, 3) := by decide +kernel
theorem dX3_cleanUnits_34 : decode cX3_cleanUnits 34 = .ok (.iconst 1, 1) := by decide +kernel
theorem dX3_cleanUnits_35 : decode cX3_cleanUnits 35 = .ok (.isub, 1) := by decide +kernel
theorem dX3_cleanUnits_36 : decode cX3_cleanUnits 36 = .ok (.putfield 117, 3) := by decide +kernel
theorem dX3_cleanUnits_39 : decode cX3_cleanUnits 39 = .ok (.iconst 1, 1) := by decide +kernel
theorem dX3_cleanUnits_40 : decode cX3_cleanUnits 40 = .ok (.istore_n 1, 1) := by decide +kernel
theorem dX3_cleanUnits_41 : decode cX3_cleanUnits 41 = .ok (.iinc 2 1, 3) := by decide +kernel
theorem dX3_cleanUnits_44 : decode cX3_cleanUnits 44 = .ok (.goto (-40), 3) := by decide +kernel
theorem dX3_cleanUnits_47 : decode cX3_cleanUnits 47 = .ok (.iload_n 1, 1) := by decide +kernel
theorem dX3_cleanUnits_48 : decode cX3_cleanUnits 48 = .ok (.ireturn, 1) := by decide +kernel
theorem dX3_reasonToWait_0 : decode cX3_reasonToWait 0 = .ok (.aload_n 0, 1) := by decide +kernel
theorem dX3_reasonToWait_1 : decode cX3_reasonToWait 1 = .ok (.getfield 19, 3) := by decide +kernel
theorem dX3_reasonToWait_4 : decode cX3_reasonToWait 4 = .ok (.iload_n 1, 1) := by decide +kernel
theorem dX3_reasonToWait_5 : decode cX3_reasonToWait 5 = .ok (.aaload, 1) := by decide +kernel
theorem dX3_reasonToWait_6 : decode cX3_reasonToWait 6 = .ok (.astore_n 3, 1) := by decide +kernel
theorem dX3_reasonToWait_7 : decode cX3_reasonToWait 7 = .ok (.aload_n 3, 1) := by decide +kernel
theorem dX3_reasonToWait_8 : decode cX3_reasonToWait 8 = .ok (.invokevirtual 183, 3) := by decide +kernel
theorem dX3_reasonToWait_11 : decode cX3_reasonToWait 11 = .ok (.ifCond .ne 30, 3) := by decide +kernel
theorem dX3_reasonToWait_14 : decode cX3_reasonToWait 14 = .ok (.aload_n 3, 1) := by decide +kernel
theorem dX3_reasonToWait_15 : decode cX3_reasonToWait 15 = .ok (.getfield 159, 3) := by decide +kernel
theorem dX3_reasonToWait_18 : decode cX3_reasonToWait 18 = .ok (.iconst (-1), 1) := by decide +kernel
theorem dX3_reasonToWait_19 : decode cX3_reasonToWait 19 = .ok (.if_icmp .eq 22, 3) := by decide +kernel
theorem dX3_reasonToWait_22 : decode cX3_reasonToWait 22 = .ok (.aload_n 0, 1) := by decide +kernel
theorem dX3_reasonToWait_23 : decode cX3_reasonToWait 23 = .ok (.getfield 19, 3) := by decide +kernel
theorem dX3_reasonToWait_26 : decode cX3_reasonToWait 26 = .ok (.aload_n 3, 1) := by decide +kernel
theorem dX3_reasonToWait_27 : decode cX3_reasonToWait 27 = .ok (.getfield 159, 3) := by decide +kernel
theorem dX3_reasonToWait_30 : decode cX3_reasonToWait 30 = .ok (.aaload, 1) := by decide +kernel
theorem dX3_reasonToWait_31 : decode cX3_reasonToWait 31 = .ok (.getfield 121, 3) := by decide +kernel
theorem dX3_reasonToWait_34 : decode cX3_reasonToWait 34 = .ok (.bipush 6, 2) := by decide +kernel
theorem dX3_reasonToWait_36 : decode cX3_reasonToWait 36 = .ok (.if_icmp .eq 5, 3) := by decide +kernel
theorem dX3_reasonToWait_39 : decode cX3_reasonToWait 39 = .ok (.iconst 1, 1) := by decide +kernel
theorem dX3_reasonToWait_40 : decode cX3_reasonToWait 40 = .ok (.ireturn, 1) := by decide +kernel
theorem dX3_reasonToWait_41 : decode cX3_reasonToWait 41 = .ok (.aload_n 3, 1) := by decide +kernel
theorem dX3_reasonToWait_42 : decode cX3_reasonToWait 42 = .ok (.getfield 114, 3) := by decide +kernel
theorem dX3_reasonToWait_45 : decode cX3_reasonToWait 45 = .ok (.iconst (-1), 1) := by decide +kernel
theorem dX3_reasonToWait_46 : decode cX3_reasonToWait 46 = .ok (.if_icmp .ne 15, 3) := by decide +kernel
theorem dX3_reasonToWait_49 : decode cX3_reasonToWait 49 = .ok (.aload_n 0, 1) := by decide +kernel
theorem dX3_reasonToWait_50 : decode cX3_reasonToWait 50 = .ok (.aload_n 3, 1) := by decide +kernel
theorem dX3_reasonToWait_51 : decode cX3_reasonToWait 51 = .ok (.iload_n 2, 1) := by decide +kernel
theorem dX3_reasonToWait_52 : decode cX3_reasonToWait 52 = .ok (.invokevirtual 186, 3) := by decide +kernel
theorem dX3_reasonToWait_55 : decode cX3_reasonToWait 55 = .ok (.iconst (-1), 1) := by decide +kernel
theorem dX3_reasonToWait_56 : decode cX3_reasonToWait 56 = .ok (.if_icmp .ne 5, 3) := by decide +kernel
theorem dX3_reasonToWait_59 : decode cX3_reasonToWait 59 = .ok (.iconst 2, 1) := by decide +kernel
theorem dX3_reasonToWait_60 : decode cX3_reasonToWait 60 = .ok (.ireturn, 1) := by decide +kernel
theorem dX3_reasonToWait_61 : decode cX3_reasonToWait 61 = .ok (.aload_n 0, 1) := by decide +kernel
theorem dX3_reasonToWait_62 : decode cX3_reasonToWait 62 = .ok (.aload_n 3, 1) := by decide +kernel
theorem dX3_reasonToWait_63 : decode cX3_reasonToWait 63 = .ok (.iconst 2, 1) := by decide +kernel
theorem dX3_reasonToWait_64 : decode cX3_reasonToWait 64 = .ok (.invokevirtual 101, 3) := by decide +kernel
theorem dX3_reasonToWait_67 : decode cX3_reasonToWait 67 = .ok (.istore 4, 2) := by decide +kernel
theorem dX3_reasonToWait_69 : decode cX3_reasonToWait 69 = .ok (.iload 4, 2) := by decide +kernel
theorem dX3_reasonToWait_71 : decode cX3_reasonToWait 71 = .ok (.iconst (-1), 1) := by decide +kernel
theorem dX3_reasonToWait_72 : decode cX3_reasonToWait 72 = .ok (.if_icmp .eq 27, 3) := by decide +kernel
theorem dX3_reasonToWait_75 : decode cX3_reasonToWait 75 = .ok (.aload_n 0, 1) := by decide +kernel
theorem dX3_reasonToWait_76 : decode cX3_reasonToWait 76 = .ok (.getfield 23, 3) := by decide +kernel
theorem dX3_reasonToWait_79 : decode cX3_reasonToWait 79 = .ok (.iload 4, 2) := by decide +kernel
theorem dX3_reasonToWait_81 : decode cX3_reasonToWait 81 = .ok (.iaload, 1) := by decide +kernel
theorem dX3_reasonToWait_82 : decode cX3_reasonToWait 82 = .ok (.iconst (-1), 1) := by decide +kernel
theorem dX3_reasonToWait_83 : decode cX3_reasonToWait 83 = .ok (.if_icmp .eq 16, 3) := by decide +kernel
theorem dX3_reasonToWait_86 : decode cX3_reasonToWait 86 = .ok (.aload_n 0, 1) := by decide +kernel
theorem dX3_reasonToWait_87 : decode cX3_reasonToWait 87 = .ok (.getfield 23, 3) := by decide +kernel
theorem dX3_reasonToWait_90 : decode cX3_reasonToWait 90 = .ok (.iload 4, 2) := by decide +kernel
theorem dX3_reasonToWait_92 : decode cX3_reasonToWait 92 = .ok (.iaload, 1) := by decide +kernel
theorem dX3_reasonToWait_93 : decode cX3_reasonToWait 93 = .ok (.iload_n 1, 1) := by decide +kernel
theorem dX3_reasonToWait_94 : decode cX3_reasonToWait 94 = .ok (.if_icmp .eq 5, 3) := by decide +kernel
theorem dX3_reasonToWait_97 : decode cX3_reasonToWait 97 = .ok (.iconst 3, 1) := by decide +kernel
theorem dX3_reasonToWait_98 : decode cX3_reasonToWait 98 = .ok (.ireturn, 1) := by decide +kernel
theorem dX3_reasonToWait_99 : decode cX3_reasonToWait 99 = .ok (.iconst 0, 1) := by decide +kernel
theorem dX3_reasonToWait_100 : decode cX3_reasonToWait 100 = .ok (.ireturn, 1) := by decide +kernel
theorem dX3_moveOn_0 : decode cX3_moveOn 0 = .ok (.aload_n 0, 1) := by decide +kernel
theorem dX3_moveOn_1 : decode cX3_moveOn 1 = .ok (.iload_n 1, 1) := by decide +kernel
theorem dX3_moveOn_2 : decode cX3_moveOn 2 = .ok (.iconst 0, 1) := by decide +kernel
theorem dX3_moveOn_3 : decode cX3_moveOn 3 = .ok (.invokevirtual 189, 3) := by decide +kernel
theorem dX3_moveOn_6 : decode cX3_moveOn 6 = .ok (.istore_n 2, 1) := by decide +kernel
theorem dX3_moveOn_7 : decode cX3_moveOn 7 = .ok (.iload_n 2, 1) := by decide +kernel
theorem dX3_moveOn_8 : decode cX3_moveOn 8 = .ok (.iconst 1, 1) := by decide +kernel
theorem dX3_moveOn_9 : decode cX3_moveOn 9 = .ok (.if_icmp .eq 8, 3) := by decide +kernel
theorem dX3_moveOn_12 : decode cX3_moveOn 12 = .ok (.iload_n 2, 1) := by decide +kernel
theorem dX3_moveOn_13 : decode cX3_moveOn 13 = .ok (.iconst 2, 1) := by decide +kernel
theorem dX3_moveOn_14 : decode cX3_moveOn 14 = .ok (.if_icmp .ne 5, 3) := by decide +kernel
theorem dX3_moveOn_17 : decode cX3_moveOn 17 = .ok (.iconst 0, 1) := by decide +kernel
theorem dX3_moveOn_18 : decode cX3_moveOn 18 = .ok (.ireturn, 1) := by decide +kernel
theorem dX3_moveOn_19 : decode cX3_moveOn 19 = .ok (.aload_n 0, 1) := by decide +kernel
theorem dX3_moveOn_20 : decode cX3_moveOn 20 = .ok (.iload_n 1, 1) := by decide +kernel
theorem dX3_moveOn_21 : decode cX3_moveOn 21 = .ok (.invokevirtual 192, 3) := by decide +kernel
theorem dX3_moveOn_24 : decode cX3_moveOn 24 = .ok (.istore_n 3, 1) := by decide +kernel
theorem dX3_moveOn_25 : decode cX3_moveOn 25 = .ok (.iload_n 2, 1) := by decide +kernel
theorem dX3_moveOn_26 : decode cX3_moveOn 26 = .ok (.iconst 3, 1) := by decide +kernel
theorem dX3_moveOn_27 : decode cX3_moveOn 27 = .ok (.if_icmp .ne 5, 3) := by decide +kernel
theorem dX3_moveOn_30 : decode cX3_moveOn 30 = .ok (.iload_n 3, 1) := by decide +kernel
theorem dX3_moveOn_31 : decode cX3_moveOn 31 = .ok (.ireturn, 1) := by decide +kernel
theorem dX3_moveOn_32 : decode cX3_moveOn 32 = .ok (.aload_n 0, 1) := by decide +kernel
theorem dX3_moveOn_33 : decode cX3_moveOn 33 = .ok (.iload_n 1, 1) := by decide +kernel
theorem dX3_moveOn_34 : decode cX3_moveOn 34 = .ok (.invokevirtual 195, 3) := by decide +kernel
theorem dX3_moveOn_37 : decode cX3_moveOn 37 = .ok (.iconst 1, 1) := by decide +kernel
theorem dX3_moveOn_38 : decode cX3_moveOn 38 = .ok (.ireturn, 1) := by decide +kernel
theorem dX3_takeUnit_0 : decode cX3_takeUnit 0 = .ok (.aload_n 0, 1) := by decide +kernel
theorem dX3_takeUnit_1 : decode cX3_takeUnit 1 = .ok (.getfield 19, 3) := by decide +kernel
theorem dX3_takeUnit_4 : decode cX3_takeUnit 4 = .ok (.iload_n 1, 1) := by decide +kernel
theorem dX3_takeUnit_5 : decode cX3_takeUnit 5 = .ok (.aaload, 1) := by decide +kernel
theorem dX3_takeUnit_6 : decode cX3_takeUnit 6 = .ok (.astore_n 2, 1) := by decide +kernel
theorem dX3_takeUnit_7 : decode cX3_takeUnit 7 = .ok (.aload_n 2, 1) := by decide +kernel
theorem dX3_takeUnit_8 : decode cX3_takeUnit 8 = .ok (.getfield 114, 3) := by decide +kernel
theorem dX3_takeUnit_11 : decode cX3_takeUnit 11 = .ok (.iconst (-1), 1) := by decide +kernel
theorem dX3_takeUnit_12 : decode cX3_takeUnit 12 = .ok (.if_icmp .eq 5, 3) := by decide +kernel
theorem dX3_takeUnit_15 : decode cX3_takeUnit 15 = .ok (.iconst 0, 1) := by decide +kernel
theorem dX3_takeUnit_16 : decode cX3_takeUnit 16 = .ok (.ireturn, 1) := by decide +kernel
theorem dX3_takeUnit_17 : decode cX3_takeUnit 17 = .ok (.aload_n 0, 1) := by decide +kernel
theorem dX3_takeUnit_18 : decode cX3_takeUnit 18 = .ok (.aload_n 2, 1) := by decide +kernel
theorem dX3_takeUnit_19 : decode cX3_takeUnit 19 = .ok (.iconst 0, 1) := by decide +kernel
theorem dX3_takeUnit_20 : decode cX3_takeUnit 20 = .ok (.invokevirtual 186, 3) := by decide +kernel
theorem dX3_takeUnit_23 : decode cX3_takeUnit 23 = .ok (.istore_n 3, 1) := by decide +kernel
theorem dX3_takeUnit_24 : decode cX3_takeUnit 24 = .ok (.iload_n 3, 1) := by decide +kernel
theorem dX3_takeUnit_25 : decode cX3_takeUnit 25 = .ok (.iconst (-1), 1) := by decide +kernel
theorem dX3_takeUnit_26 : decode cX3_takeUnit 26 = .ok (.if_icmp .ne 5, 3) := by decide +kernel
theorem dX3_takeUnit_29 : decode cX3_takeUnit 29 = .ok (.iconst 0, 1) := by decide +kernel
theorem dX3_takeUnit_30 : decode cX3_takeUnit 30 = .ok (.ireturn, 1) := by decide +kernel
theorem dX3_takeUnit_31 : decode cX3_takeUnit 31 = .ok (.aload_n 2, 1) := by decide +kernel
theorem dX3_takeUnit_32 : decode cX3_takeUnit 32 = .ok (.iload_n 3, 1) := by decide +kernel
theorem dX3_takeUnit_33 : decode cX3_takeUnit 33 = .ok (.putfield 114, 3) := by decide +kernel
theorem dX3_takeUnit_36 : decode cX3_takeUnit 36 = .ok (.aload_n 0, 1) := by decide +kernel
theorem dX3_takeUnit_37 : decode cX3_takeUnit 37 = .ok (.getfield 11, 3) := by decide +kernel
theorem dX3_takeUnit_40 : decode cX3_takeUnit 40 = .ok (.iload_n 3, 1) := by decide +kernel
theorem dX3_takeUnit_41 : decode cX3_takeUnit 41 = .ok (.aaload, 1) := by decide +kernel
theorem dX3_takeUnit_42 : decode cX3_takeUnit 42 = .ok (.iload_n 1, 1) := by decide +kernel
theorem dX3_takeUnit_43 : decode cX3_takeUnit 43 = .ok (.putfield 83, 3) := by decide +kernel
theorem dX3_takeUnit_46 : decode cX3_takeUnit 46 = .ok (.aload_n 0, 1) := by decide +kernel
theorem dX3_takeUnit_47 : decode cX3_takeUnit 47 = .ok (.getfield 33, 3) := by decide +kernel
theorem dX3_takeUnit_50 : decode cX3_takeUnit 50 = .ok (.aload_n 0, 1) := by decide +kernel
theorem dX3_takeUnit_51 : decode cX3_takeUnit 51 = .ok (.getfield 72, 3) := by decide +kernel
theorem dX3_takeUnit_54 : decode cX3_takeUnit 54 = .ok (.iload_n 1, 1) := by decide +kernel
theorem dX3_takeUnit_55 : decode cX3_takeUnit 55 = .ok (.iconst 0, 1) := by decide +kernel
theorem dX3_takeUnit_56 : decode cX3_takeUnit 56 = .ok (.invokevirtual 149, 3) := by decide +kernel
theorem dX3_takeUnit_59 : decode cX3_takeUnit 59 = .ok (.iconst 1, 1) := by decide +kernel
theorem dX3_takeUnit_60 : decode cX3_takeUnit 60 = .ok (.ireturn, 1) := by decide +kernel
theorem dX3_work_0 : decode cX3_work 0 = .ok (.aload_n 0, 1) := by decide +kernel
theorem dX3_work_1 : decode cX3_work 1 = .ok (.getfield 19, 3) := by decide +kernel
theorem dX3_work_4 : decode cX3_work 4 = .ok (.iload_n 1, 1) := by decide +kernel
theorem dX3_work_5 : decode cX3_work 5 = .ok (.aaload, 1) := by decide +kernel
theorem dX3_work_6 : decode cX3_work 6 = .ok (.astore_n 2, 1) := by decide +kernel
theorem dX3_work_7 : decode cX3_work 7 = .ok (.aload_n 2, 1) := by decide +kernel
theorem dX3_work_8 : decode cX3_work 8 = .ok (.getfield 114, 3) := by decide +kernel
theorem dX3_work_11 : decode cX3_work 11 = .ok (.iconst (-1), 1) := by decide +kernel
theorem dX3_work_12 : decode cX3_work 12 = .ok (.if_icmp .ne 4, 3) := by decide +kernel
theorem dX3_work_15 : decode cX3_work 15 = .ok (.return_, 1) := by decide +kernel
theorem dX3_work_16 : decode cX3_work 16 = .ok (.aload_n 0, 1) := by decide +kernel
theorem dX3_work_17 : decode cX3_work 17 = .ok (.aload_n 2, 1) := by decide +kernel
theorem dX3_work_18 : decode cX3_work 18 = .ok (.iconst 2, 1) := by decide +kernel
theorem dX3_work_19 : decode cX3_work 19 = .ok (.invokevirtual 101, 3) := by decide +kernel
theorem dX3_work_22 : decode cX3_work 22 = .ok (.istore_n 3, 1) := by decide +kernel
theorem dX3_work_23 : decode cX3_work 23 = .ok (.iload_n 3, 1) := by decide +kernel
theorem dX3_work_24 : decode cX3_work 24 = .ok (.iconst (-1), 1) := by decide +kernel
theorem dX3_work_25 : decode cX3_work 25 = .ok (.if_icmp .eq 10, 3) := by decide +kernel
theorem dX3_work_28 : decode cX3_work 28 = .ok (.aload_n 0, 1) := by decide +kernel
theorem dX3_work_29 : decode cX3_work 29 = .ok (.getfield 23, 3) := by decide +kernel
theorem dX3_work_32 : decode cX3_work 32 = .ok (.iload_n 3, 1) := by decide +kernel
theorem dX3_work_33 : decode cX3_work 33 = .ok (.iload_n 1, 1) := by decide +kernel
theorem dX3_work_34 : decode cX3_work 34 = .ok (.iastore, 1) := by decide +kernel
theorem dX3_work_35 : decode cX3_work 35 = .ok (.aload_n 2, 1) := by decide +kernel
theorem dX3_work_36 : decode cX3_work 36 = .ok (.dup, 1) := by decide +kernel
theorem dX3_work_37 : decode cX3_work 37 = .ok (.getfield 124, 3) := by decide +kernel
theorem dX3_work_40 : decode cX3_work 40 = .ok (.iconst 1, 1) := by decide +kernel
theorem dX3_work_41 : decode cX3_work 41 = .ok (.iadd, 1) := by decide +kernel
theorem dX3_work_42 : decode cX3_work 42 = .ok (.putfield 124, 3) := by decide +kernel
theorem dX3_work_45 : decode cX3_work 45 = .ok (.aload_n 0, 1) := by decide +kernel
theorem dX3_work_46 : decode cX3_work 46 = .ok (.getfield 11, 3) := by decide +kernel
theorem dX3_work_49 : decode cX3_work 49 = .ok (.aload_n 2, 1) := by decide +kernel
theorem dX3_work_50 : decode cX3_work 50 = .ok (.getfield 114, 3) := by decide +kernel
theorem dX3_work_53 : decode cX3_work 53 = .ok (.aaload, 1) := by decide +kernel
theorem dX3_work_54 : decode cX3_work 54 = .ok (.dup, 1) := by decide +kernel
theorem dX3_work_55 : decode cX3_work 55 = .ok (.getfield 98, 3) := by decide +kernel
theorem dX3_work_58 : decode cX3_work 58 = .ok (.iconst 1, 1) := by decide +kernel
theorem dX3_work_59 : decode cX3_work 59 = .ok (.iadd, 1) := by decide +kernel
theorem dX3_work_60 : decode cX3_work 60 = .ok (.putfield 98, 3) := by decide +kernel
theorem dX3_work_63 : decode cX3_work 63 = .ok (.aload_n 2, 1) := by decide +kernel
theorem dX3_work_64 : decode cX3_work 64 = .ok (.getfield 124, 3) := by decide +kernel
theorem dX3_work_67 : decode cX3_work 67 = .ok (.aload_n 0, 1) := by decide +kernel
theorem dX3_work_68 : decode cX3_work 68 = .ok (.aload_n 2, 1) := by decide +kernel
theorem dX3_work_69 : decode cX3_work 69 = .ok (.iconst 1, 1) := by decide +kernel
theorem dX3_work_70 : decode cX3_work 70 = .ok (.invokevirtual 101, 3) := by decide +kernel
theorem dX3_work_73 : decode cX3_work 73 = .ok (.if_icmp .lt 8, 3) := by decide +kernel
theorem dX3_work_76 : decode cX3_work 76 = .ok (.aload_n 0, 1) := by decide +kernel
theorem dX3_work_77 : decode cX3_work 77 = .ok (.iload_n 1, 1) := by decide +kernel
theorem dX3_work_78 : decode cX3_work 78 = .ok (.invokevirtual 198, 3) := by decide +kernel
theorem dX3_work_81 : decode cX3_work 81 = .ok (.return_, 1) := by decide +kernel
theorem dX3_endPhase_0 : decode cX3_endPhase 0 = .ok (.aload_n 0, 1) := by decide +kernel
theorem dX3_endPhase_1 : decode cX3_endPhase 1 = .ok (.getfield 19, 3) := by decide +kernel
theorem dX3_endPhase_4 : decode cX3_endPhase 4 = .ok (.iload_n 1, 1) := by decide +kernel
theorem dX3_endPhase_5 : decode cX3_endPhase 5 = .ok (.aaload, 1) := by decide +kernel
theorem dX3_endPhase_6 : decode cX3_endPhase 6 = .ok (.astore_n 2, 1) := by decide +kernel
theorem dX3_endPhase_7 : decode cX3_endPhase 7 = .ok (.aload_n 0, 1) := by decide +kernel
theorem dX3_endPhase_8 : decode cX3_endPhase 8 = .ok (.aload_n 2, 1) := by decide +kernel
theorem dX3_endPhase_9 : decode cX3_endPhase 9 = .ok (.iconst 0, 1) := by decide +kernel
theorem dX3_endPhase_10 : decode cX3_endPhase 10 = .ok (.invokevirtual 101, 3) := by decide +kernel
theorem dX3_endPhase_13 : decode cX3_endPhase 13 = .ok (.istore_n 3, 1) := by decide +kernel
theorem dX3_endPhase_14 : decode cX3_endPhase 14 = .ok (.aload_n 0, 1) := by decide +kernel
theorem dX3_endPhase_15 : decode cX3_endPhase 15 = .ok (.iload_n 1, 1) := by decide +kernel
theorem dX3_endPhase_16 : decode cX3_endPhase 16 = .ok (.invokevirtual 146, 3) := by decide +kernel
theorem dX3_endPhase_19 : decode cX3_endPhase 19 = .ok (.aload_n 2, 1) := by decide +kernel
theorem dX3_endPhase_20 : decode cX3_endPhase 20 = .ok (.aload_n 2, 1) := by decide +kernel
theorem dX3_endPhase_21 : decode cX3_endPhase 21 = .ok (.getfield 201, 3) := by decide +kernel
theorem dX3_endPhase_24 : decode cX3_endPhase 24 = .ok (.aload_n 0, 1) := by decide +kernel
theorem dX3_endPhase_25 : decode cX3_endPhase 25 = .ok (.aload_n 2, 1) := by decide +kernel
theorem dX3_endPhase_26 : decode cX3_endPhase 26 = .ok (.iconst 3, 1) := by decide +kernel
theorem dX3_endPhase_27 : decode cX3_endPhase 27 = .ok (.invokevirtual 101, 3) := by decide +kernel
theorem dX3_endPhase_30 : decode cX3_endPhase 30 = .ok (.i2f, 1) := by decide +kernel
theorem dX3_endPhase_31 : decode cX3_endPhase 31 = .ok (.fmul, 1) := by decide +kernel
theorem dX3_endPhase_32 : decode cX3_endPhase 32 = .ok (.ldc 205, 2) := by decide +kernel
theorem dX3_endPhase_34 : decode cX3_endPhase 34 = .ok (.fdiv, 1) := by decide +kernel
theorem dX3_endPhase_35 : decode cX3_endPhase 35 = .ok (.putfield 201, 3) := by decide +kernel
theorem dX3_endPhase_38 : decode cX3_endPhase 38 = .ok (.aload_n 2, 1) := by decide +kernel
theorem dX3_endPhase_39 : decode cX3_endPhase 39 = .ok (.dup, 1) := by decide +kernel
theorem dX3_endPhase_40 : decode cX3_endPhase 40 = .ok (.getfield 139, 3) := by decide +kernel
theorem dX3_endPhase_43 : decode cX3_endPhase 43 = .ok (.iconst 1, 1) := by decide +kernel
theorem dX3_endPhase_44 : decode cX3_endPhase 44 = .ok (.iadd, 1) := by decide +kernel
theorem dX3_endPhase_45 : decode cX3_endPhase 45 = .ok (.putfield 139, 3) := by decide +kernel
theorem dX3_endPhase_48 : decode cX3_endPhase 48 = .ok (.aload_n 2, 1) := by decide +kernel
theorem dX3_endPhase_49 : decode cX3_endPhase 49 = .ok (.iconst 0, 1) := by decide +kernel
theorem dX3_endPhase_50 : decode cX3_endPhase 50 = .ok (.putfield 124, 3) := by decide +kernel
theorem dX3_endPhase_53 : decode cX3_endPhase 53 = .ok (.aload_n 0, 1) := by decide +kernel
theorem dX3_endPhase_54 : decode cX3_endPhase 54 = .ok (.getfield 33, 3) := by decide +kernel
theorem dX3_endPhase_57 : decode cX3_endPhase 57 = .ok (.aload_n 0, 1) := by decide +kernel
theorem dX3_endPhase_58 : decode cX3_endPhase 58 = .ok (.getfield 72, 3) := by decide +kernel
theorem dX3_endPhase_61 : decode cX3_endPhase 61 = .ok (.iload_n 1, 1) := by decide +kernel
theorem dX3_endPhase_62 : decode cX3_endPhase 62 = .ok (.iconst 1, 1) := by decide +kernel
theorem dX3_endPhase_63 : decode cX3_endPhase 63 = .ok (.invokevirtual 149, 3) := by decide +kernel
theorem dX3_endPhase_66 : decode cX3_endPhase 66 = .ok (.aload_n 2, 1) := by decide +kernel
theorem dX3_endPhase_67 : decode cX3_endPhase 67 = .ok (.getfield 139, 3) := by decide +kernel
theorem dX3_endPhase_70 : decode cX3_endPhase 70 = .ok (.aload_n 0, 1) := by decide +kernel
theorem dX3_endPhase_71 : decode cX3_endPhase 71 = .ok (.getfield 44, 3) := by decide +kernel
theorem dX3_endPhase_74 : decode cX3_endPhase 74 = .ok (.getfield 206, 3) := by decide +kernel
theorem dX3_endPhase_77 : decode cX3_endPhase 77 = .ok (.aload_n 2, 1) := by decide +kernel
theorem dX3_endPhase_78 : decode cX3_endPhase 78 = .ok (.getfield 127, 3) := by decide +kernel
theorem dX3_endPhase_81 : decode cX3_endPhase 81 = .ok (.aload_n 2, 1) := by decide +kernel
theorem dX3_endPhase_82 : decode cX3_endPhase 82 = .ok (.getfield 130, 3) := by decide +kernel
theorem dX3_endPhase_85 : decode cX3_endPhase 85 = .ok (.invokestatic 133, 3) := by decide +kernel
theorem dX3_endPhase_88 : decode cX3_endPhase 88 = .ok (.iaload, 1) := by decide +kernel
theorem dX3_endPhase_89 : decode cX3_endPhase 89 = .ok (.if_icmp .lt 15, 3) := by decide +kernel
theorem dX3_endPhase_92 : decode cX3_endPhase 92 = .ok (.aload_n 0, 1) := by decide +kernel
theorem dX3_endPhase_93 : decode cX3_endPhase 93 = .ok (.iload_n 1, 1) := by decide +kernel
theorem dX3_endPhase_94 : decode cX3_endPhase 94 = .ok (.bipush 6, 2) := by decide +kernel
theorem dX3_endPhase_96 : decode cX3_endPhase 96 = .ok (.bipush 6, 2) := by decide +kernel
theorem dX3_endPhase_98 : decode cX3_endPhase 98 = .ok (.invokevirtual 156, 3) := by decide +kernel
theorem dX3_endPhase_101 : decode cX3_endPhase 101 = .ok (.goto 36, 3) := by decide +kernel
theorem dX3_endPhase_104 : decode cX3_endPhase 104 = .ok (.aload_n 2, 1) := by decide +kernel
theorem dX3_endPhase_105 : decode cX3_endPhase 105 = .ok (.getfield 121, 3) := by decide +kernel
theorem dX3_endPhase_108 : decode cX3_endPhase 108 = .ok (.iconst 3, 1) := by decide +kernel
theorem dX3_endPhase_109 : decode cX3_endPhase 109 = .ok (.if_icmp .ne 13, 3) := by decide +kernel
theorem dX3_endPhase_112 : decode cX3_endPhase 112 = .ok (.aload_n 0, 1) := by decide +kernel
theorem dX3_endPhase_113 : decode cX3_endPhase 113 = .ok (.iload_n 1, 1) := by decide +kernel
theorem dX3_endPhase_114 : decode cX3_endPhase 114 = .ok (.iconst 4, 1) := by decide +kernel
theorem dX3_endPhase_115 : decode cX3_endPhase 115 = .ok (.iconst 4, 1) := by decide +kernel
theorem dX3_endPhase_116 : decode cX3_endPhase 116 = .ok (.invokevirtual 156, 3) := by decide +kernel
theorem dX3_endPhase_119 : decode cX3_endPhase 119 = .ok (.goto 18, 3) := by decide +kernel
theorem dX3_endPhase_122 : decode cX3_endPhase 122 = .ok (.aload_n 0, 1) := by decide +kernel
theorem dX3_endPhase_123 : decode cX3_endPhase 123 = .ok (.aload_n 2, 1) := by decide +kernel
theorem dX3_endPhase_124 : decode cX3_endPhase 124 = .ok (.iconst 0, 1) := by decide +kernel
theorem dX3_endPhase_125 : decode cX3_endPhase 125 = .ok (.invokevirtual 101, 3) := by decide +kernel
theorem dX3_endPhase_128 : decode cX3_endPhase 128 = .ok (.iload_n 3, 1) := by decide +kernel
theorem dX3_endPhase_129 : decode cX3_endPhase 129 = .ok (.if_icmp .eq 8, 3) := by decide +kernel
theorem dX3_endPhase_132 : decode cX3_endPhase 132 = .ok (.aload_n 0, 1) := by decide +kernel
theorem dX3_endPhase_133 : decode cX3_endPhase 133 = .ok (.aload_n 2, 1) := by decide +kernel
theorem dX3_endPhase_134 : decode cX3_endPhase 134 = .ok (.invokevirtual 165, 3) := by decide +kernel
theorem dX3_endPhase_137 : decode cX3_endPhase 137 = .ok (.return_, 1) := by decide +kernel
theorem dX4_init_0 : decode cX4_init 0 = .ok (.aload_n 0, 1) := by decide +kernel
theorem dX4_init_1 : decode cX4_init 1 = .ok (.invokespecial 3, 3) := by decide +kernel
theorem dX4_init_4 : decode cX4_init 4 = .ok (.aload_n 0, 1) := by decide +kernel
theorem dX4_init_5 : decode cX4_init 5 = .ok (.bipush 100, 2) := by decide +kernel
theorem dX4_init_7 : decode cX4_init 7 = .ok (.newarray .char, 2) := by decide +kernel
theorem dX4_init_9 : decode cX4_init 9 = .ok (.putfield 9, 3) := by decide +kernel
theorem dX4_init_12 : decode cX4_init 12 = .ok (.aload_n 0, 1) := by decide +kernel
theorem dX4_init_13 : decode cX4_init 13 = .ok (.iconst 5, 1) := by decide +kernel
theorem dX4_init_14 : decode cX4_init 14 = .ok (.bipush 8, 2) := by decide +kernel
theorem dX4_init_16 : decode cX4_init 16 = .ok (.multianewarray 15 2, 4) := by decide +kernel
theorem dX4_init_20 : decode cX4_init 20 = .ok (.putfield 17, 3) := by decide +kernel
theorem dX4_init_23 : decode cX4_init 23 = .ok (.return_, 1) := by decide +kernel
theorem dX4_append_0 : decode cX4_append 0 = .ok (.aload_n 0, 1) := by decide +kernel
theorem dX4_append_1 : decode cX4_append 1 = .ok (.getfield 20, 3) := by decide +kernel
theorem dX4_append_4 : decode cX4_append 4 = .ok (.bipush 100, 2) := by decide +kernel
theorem dX4_append_6 : decode cX4_append 6 = .ok (.if_icmp .ge 23, 3) := by decide +kernel
theorem dX4_append_9 : decode cX4_append 9 = .ok (.aload_n 0, 1) := by decide +kernel
theorem dX4_append_10 : decode cX4_append 10 = .ok (.getfield 9, 3) := by decide +kernel
theorem dX4_append_13 : decode cX4_append 13 = .ok (.aload_n 0, 1) := by decide +kernel
theorem dX4_append_14 : decode cX4_append 14 = .ok (.getfield 20, 3) := by decide +kernel
theorem dX4_append_17 : decode cX4_append 17 = .ok (.iload_n 1, 1) := by decide +kernel
theorem dX4_append_18 : decode cX4_append 18 = .ok (.castore, 1) := by decide +kernel
theorem dX4_append_19 : decode cX4_append 19 = .ok (.aload_n 0, 1) := by decide +kernel
theorem dX4_append_20 : decode cX4_append 20 = .ok (.dup, 1) := by decide +kernel
theorem dX4_append_21 : decode cX4_append 21 = .ok (.getfield 20, 3) := by decide +kernel
theorem dX4_append_24 : decode cX4_append 24 = .ok (.iconst 1, 1) := by decide +kernel
theorem dX4_append_25 : decode cX4_append 25 = .ok (.iadd, 1) := by decide +kernel
theorem dX4_append_26 : decode cX4_append 26 = .ok (.putfield 20, 3) := by decide +kernel
theorem dX4_append_29 : decode cX4_append 29 = .ok (.return_, 1) := by decide +kernel
theorem dX4_read_0 : decode cX4_read 0 = .ok (.aload_n 0, 1) := by decide +kernel
theorem dX4_read_1 : decode cX4_read 1 = .ok (.iconst 0, 1) := by decide +kernel
theorem dX4_read_2 : decode cX4_read 2 = .ok (.putfield 24, 3) := by decide +kernel
theorem dX4_read_5 : decode cX4_read 5 = .ok (.aload_n 0, 1) := by decide +kernel
theorem dX4_read_6 : decode cX4_read 6 = .ok (.iconst 0, 1) := by decide +kernel
theorem dX4_read_7 : decode cX4_read 7 = .ok (.putfield 27, 3) := by decide +kernel
theorem dX4_read_10 : decode cX4_read 10 = .ok (.aload_n 0, 1) := by decide +kernel
theorem dX4_read_11 : decode cX4_read 11 = .ok (.iconst 0, 1) := by decide +kernel
theorem dX4_read_12 : decode cX4_read 12 = .ok (.putfield 30, 3) := by decide +kernel
theorem dX4_read_15 : decode cX4_read 15 = .ok (.aload_n 0, 1) := by decide +kernel
theorem dX4_read_16 : decode cX4_read 16 = .ok (.iconst 0, 1) := by decide +kernel
theorem dX4_read_17 : decode cX4_read 17 = .ok (.putfield 33, 3) := by decide +kernel
theorem dX4_read_20 : decode cX4_read 20 = .ok (.aload_n 0, 1) := by decide +kernel
theorem dX4_read_21 : decode cX4_read 21 = .ok (.invokevirtual 36, 3) := by decide +kernel
theorem dX4_read_24 : decode cX4_read 24 = .ok (.iconst 0, 1) := by decide +kernel
theorem dX4_read_25 : decode cX4_read 25 = .ok (.istore_n 1, 1) := by decide +kernel
theorem dX4_read_26 : decode cX4_read 26 = .ok (.iload_n 1, 1) := by decide +kernel
theorem dX4_read_27 : decode cX4_read 27 = .ok (.bipush 100, 2) := by decide +kernel
theorem dX4_read_29 : decode cX4_read 29 = .ok (.if_icmp .ge 31, 3) := by decide +kernel
theorem dX4_read_32 : decode cX4_read 32 = .ok (.aload_n 0, 1) := by decide +kernel
theorem dX4_read_33 : decode cX4_read 33 = .ok (.getfield 30, 3) := by decide +kernel
theorem dX4_read_36 : decode cX4_read 36 = .ok (.ifCond .ne 24, 3) := by decide +kernel
theorem dX4_read_39 : decode cX4_read 39 = .ok (.aload_n 0, 1) := by decide +kernel
theorem dX4_read_40 : decode cX4_read 40 = .ok (.getfield 24, 3) := by decide +kernel
theorem dX4_read_43 : decode cX4_read 43 = .ok (.aload_n 0, 1) := by decide +kernel
theorem dX4_read_44 : decode cX4_read 44 = .ok (.getfield 20, 3) := by decide +kernel
theorem dX4_read_47 : decode cX4_read 47 = .ok (.if_icmp .ge 13, 3) := by decide +kernel
theorem dX4_read_50 : decode cX4_read 50 = .ok (.aload_n 0, 1) := by decide +kernel
theorem dX4_read_51 : decode cX4_read 51 = .ok (.invokevirtual 36, 3) := by decide +kernel
theorem dX4_read_54 : decode cX4_read 54 = .ok (.iinc 1 1, 3) := by decide +kernel
theorem dX4_read_57 : decode cX4_read 57 = .ok (.goto (-31), 3) := by decide +kernel
theorem dX4_read_60 : decode cX4_read 60 = .ok (.return_, 1) := by decide +kernel
theorem dX4_readPhase_0 : decode cX4_readPhase 0 = .ok (.aload_n 0, 1) := by decide +kernel
theorem dX4_readPhase_1 : decode cX4_readPhase 1 = .ok (.invokevirtual 39, 3) := by decide +kernel
theorem dX4_readPhase_4 : decode cX4_readPhase 4 = .ok (.invokestatic 43, 3) := by decide +kernel
theorem dX4_readPhase_7 : decode cX4_readPhase 7 = .ok (.istore_n 1, 1) := by decide +kernel
theorem dX4_readPhase_8 : decode cX4_readPhase 8 = .ok (.iload_n 1, 1) := by decide +kernel
theorem dX4_readPhase_9 : decode cX4_readPhase 9 = .ok (.iconst (-1), 1) := by decide +kernel
theorem dX4_readPhase_10 : decode cX4_readPhase 10 = .ok (.if_icmp .ne 10, 3) := by decide +kernel
theorem dX4_readPhase_13 : decode cX4_readPhase 13 = .ok (.aload_n 0, 1) := by decide +kernel
theorem dX4_readPhase_14 : decode cX4_readPhase 14 = .ok (.invokevirtual 47, 3) := by decide +kernel
theorem dX4_readPhase_17 : decode cX4_readPhase 17 = .ok (.goto 54, 3) := by decide +kernel
theorem dX4_readPhase_20 : decode cX4_readPhase 20 = .ok (.aload_n 0, 1) := by decide +kernel
theorem dX4_readPhase_21 : decode cX4_readPhase 21 = .ok (.getfield 33, 3) := by decide +kernel
theorem dX4_readPhase_24 : decode cX4_readPhase 24 = .ok (.bipush 8, 2) := by decide +kernel
theorem dX4_readPhase_26 : decode cX4_readPhase 26 = .ok (.if_icmp .lt 15, 3) := by decide +kernel
theorem dX4_readPhase_29 : decode cX4_readPhase 29 = .ok (.aload_n 0, 1) := by decide +kernel
theorem dX4_readPhase_30 : decode cX4_readPhase 30 = .ok (.aload_n 0, 1) := by decide +kernel
theorem dX4_readPhase_31 : decode cX4_readPhase 31 = .ok (.getfield 24, 3) := by decide +kernel
theorem dX4_readPhase_34 : decode cX4_readPhase 34 = .ok (.iconst 4, 1) := by decide +kernel
theorem dX4_readPhase_35 : decode cX4_readPhase 35 = .ok (.invokevirtual 50, 3) := by decide +kernel
theorem dX4_readPhase_38 : decode cX4_readPhase 38 = .ok (.goto 33, 3) := by decide +kernel
theorem dX4_readPhase_41 : decode cX4_readPhase 41 = .ok (.aload_n 0, 1) := by decide +kernel
theorem dX4_readPhase_42 : decode cX4_readPhase 42 = .ok (.dup, 1) := by decide +kernel
theorem dX4_readPhase_43 : decode cX4_readPhase 43 = .ok (.getfield 24, 3) := by decide +kernel
theorem dX4_readPhase_46 : decode cX4_readPhase 46 = .ok (.iconst 1, 1) := by decide +kernel
theorem dX4_readPhase_47 : decode cX4_readPhase 47 = .ok (.iadd, 1) := by decide +kernel
theorem dX4_readPhase_48 : decode cX4_readPhase 48 = .ok (.putfield 24, 3) := by decide +kernel
theorem dX4_readPhase_51 : decode cX4_readPhase 51 = .ok (.aload_n 0, 1) := by decide +kernel
theorem dX4_readPhase_52 : decode cX4_readPhase 52 = .ok (.getfield 17, 3) := by decide +kernel
theorem dX4_readPhase_55 : decode cX4_readPhase 55 = .ok (.iconst 0, 1) := by decide +kernel
theorem dX4_readPhase_56 : decode cX4_readPhase 56 = .ok (.aaload, 1) := by decide +kernel
theorem dX4_readPhase_57 : decode cX4_readPhase 57 = .ok (.aload_n 0, 1) := by decide +kernel
theorem dX4_readPhase_58 : decode cX4_readPhase 58 = .ok (.getfield 33, 3) := by decide +kernel
theorem dX4_readPhase_61 : decode cX4_readPhase 61 = .ok (.iload_n 1, 1) := by decide +kernel
theorem dX4_readPhase_62 : decode cX4_readPhase 62 = .ok (.iastore, 1) := by decide +kernel
theorem dX4_readPhase_63 : decode cX4_readPhase 63 = .ok (.aload_n 0, 1) := by decide +kernel
theorem dX4_readPhase_64 : decode cX4_readPhase 64 = .ok (.aload_n 0, 1) := by decide +kernel
theorem dX4_readPhase_65 : decode cX4_readPhase 65 = .ok (.getfield 33, 3) := by decide +kernel
theorem dX4_readPhase_68 : decode cX4_readPhase 68 = .ok (.invokevirtual 54, 3) := by decide +kernel
theorem dX4_readPhase_71 : decode cX4_readPhase 71 = .ok (.return_, 1) := by decide +kernel
theorem dX4_readRest_0 : decode cX4_readRest 0 = .ok (.aload_n 0, 1) := by decide +kernel
theorem dX4_readRest_1 : decode cX4_readRest 1 = .ok (.getfield 17, 3) := by decide +kernel
theorem dX4_readRest_4 : decode cX4_readRest 4 = .ok (.iconst 1, 1) := by decide +kernel
theorem dX4_readRest_5 : decode cX4_readRest 5 = .ok (.aaload, 1) := by decide +kernel
theorem dX4_readRest_6 : decode cX4_readRest 6 = .ok (.iload_n 1, 1) := by decide +kernel
theorem dX4_readRest_7 : decode cX4_readRest 7 = .ok (.aload_n 0, 1) := by decide +kernel
theorem dX4_readRest_8 : decode cX4_readRest 8 = .ok (.iconst 2, 1) := by decide +kernel
theorem dX4_readRest_9 : decode cX4_readRest 9 = .ok (.bipush 99, 2) := by decide +kernel
theorem dX4_readRest_11 : decode cX4_readRest 11 = .ok (.invokevirtual 58, 3) := by decide +kernel
theorem dX4_readRest_14 : decode cX4_readRest 14 = .ok (.iastore, 1) := by decide +kernel
theorem dX4_readRest_15 : decode cX4_readRest 15 = .ok (.aload_n 0, 1) := by decide +kernel
theorem dX4_readRest_16 : decode cX4_readRest 16 = .ok (.getfield 17, 3) := by decide +kernel
theorem dX4_readRest_19 : decode cX4_readRest 19 = .ok (.iconst 2, 1) := by decide +kernel
theorem dX4_readRest_20 : decode cX4_readRest 20 = .ok (.aaload, 1) := by decide +kernel
theorem dX4_readRest_21 : decode cX4_readRest 21 = .ok (.iload_n 1, 1) := by decide +kernel
theorem dX4_readRest_22 : decode cX4_readRest 22 = .ok (.aload_n 0, 1) := by decide +kernel
theorem dX4_readRest_23 : decode cX4_readRest 23 = .ok (.bipush 115, 2) := by decide +kernel
theorem dX4_readRest_25 : decode cX4_readRest 25 = .ok (.invokevirtual 62, 3) := by decide +kernel
theorem dX4_readRest_28 : decode cX4_readRest 28 = .ok (.ifCond .eq 10, 3) := by decide +kernel
theorem dX4_readRest_31 : decode cX4_readRest 31 = .ok (.aload_n 0, 1) := by decide +kernel
theorem dX4_readRest_32 : decode cX4_readRest 32 = .ok (.invokevirtual 66, 3) := by decide +kernel
theorem dX4_readRest_35 : decode cX4_readRest 35 = .ok (.goto 4, 3) := by decide +kernel
theorem dX4_readRest_38 : decode cX4_readRest 38 = .ok (.iconst (-1), 1) := by decide +kernel
theorem dX4_readRest_39 : decode cX4_readRest 39 = .ok (.iastore, 1) := by decide +kernel
theorem dX4_readRest_40 : decode cX4_readRest 40 = .ok (.aload_n 0, 1) := by decide +kernel
theorem dX4_readRest_41 : decode cX4_readRest 41 = .ok (.getfield 17, 3) := by decide +kernel
theorem dX4_readRest_44 : decode cX4_readRest 44 = .ok (.iconst 3, 1) := by decide +kernel
theorem dX4_readRest_45 : decode cX4_readRest 45 = .ok (.aaload, 1) := by decide +kernel
theorem dX4_readRest_46 : decode cX4_readRest 46 = .ok (.iload_n 1, 1) := by decide +kernel
theorem dX4_readRest_47 : decode cX4_readRest 47 = .ok (.aload_n 0, 1) := by decide +kernel
theorem dX4_readRest_48 : decode cX4_readRest 48 = .ok (.bipush 121, 2) := by decide +kernel
theorem dX4_readRest_50 : decode cX4_readRest 50 = .ok (.invokevirtual 62, 3) := by decide +kernel
theorem dX4_readRest_53 : decode cX4_readRest 53 = .ok (.ifCond .eq 13, 3) := by decide +kernel
theorem dX4_readRest_56 : decode cX4_readRest 56 = .ok (.aload_n 0, 1) := by decide +kernel
theorem dX4_readRest_57 : decode cX4_readRest 57 = .ok (.iconst 3, 1) := by decide +kernel
theorem dX4_readRest_58 : decode cX4_readRest 58 = .ok (.bipush 100, 2) := by decide +kernel
theorem dX4_readRest_60 : decode cX4_readRest 60 = .ok (.invokevirtual 58, 3) := by decide +kernel
theorem dX4_readRest_63 : decode cX4_readRest 63 = .ok (.goto 5, 3) := by decide +kernel
theorem dX4_readRest_66 : decode cX4_readRest 66 = .ok (.bipush 100, 2) := by decide +kernel
theorem dX4_readRest_68 : decode cX4_readRest 68 = .ok (.iastore, 1) := by decide +kernel
theorem dX4_readRest_69 : decode cX4_readRest 69 = .ok (.aload_n 0, 1) := by decide +kernel
theorem dX4_readRest_70 : decode cX4_readRest 70 = .ok (.getfield 17, 3) := by decide +kernel
theorem dX4_readRest_73 : decode cX4_readRest 73 = .ok (.iconst 4, 1) := by decide +kernel
theorem dX4_readRest_74 : decode cX4_readRest 74 = .ok (.aaload, 1) := by decide +kernel
theorem dX4_readRest_75 : decode cX4_readRest 75 = .ok (.iload_n 1, 1) := by decide +kernel
theorem dX4_readRest_76 : decode cX4_readRest 76 = .ok (.aload_n 0, 1) := by decide +kernel
theorem dX4_readRest_77 : decode cX4_readRest 77 = .ok (.bipush 97, 2) := by decide +kernel
theorem dX4_readRest_79 : decode cX4_readRest 79 = .ok (.invokevirtual 62, 3) := by decide +kernel
theorem dX4_readRest_82 : decode cX4_readRest 82 = .ok (.invokestatic 69, 3) := by decide +kernel
theorem dX4_readRest_85 : decode cX4_readRest 85 = .ok (.iastore, 1) := by decide +kernel
theorem dX4_readRest_86 : decode cX4_readRest 86 = .ok (.aload_n 0, 1) := by decide +kernel
theorem dX4_readRest_87 : decode cX4_readRest 87 = .ok (.bipush 59, 2) := by decide +kernel
theorem dX4_readRest_89 : decode cX4_readRest 89 = .ok (.invokevirtual 62, 3) := by decide +kernel
theorem dX4_readRest_92 : decode cX4_readRest 92 = .ok (.ifCond .eq 16, 3) := by decide +kernel
theorem dX4_readRest_95 : decode cX4_readRest 95 = .ok (.aload_n 0, 1) := by decide +kernel
theorem dX4_readRest_96 : decode cX4_readRest 96 = .ok (.dup, 1) := by decide +kernel
theorem dX4_readRest_97 : decode cX4_readRest 97 = .ok (.getfield 33, 3) := by decide +kernel
theorem dX4_readRest_100 : decode cX4_readRest 100 = .ok (.iconst 1, 1) := by decide +kernel
theorem dX4_readRest_101 : decode cX4_readRest 101 = .ok (.iadd, 1) := by decide +kernel
theorem dX4_readRest_102 : decode cX4_readRest 102 = .ok (.putfield 33, 3) := by decide +kernel
theorem dX4_readRest_105 : decode cX4_readRest 105 = .ok (.goto 14, 3) := by decide +kernel
theorem dX4_readRest_108 : decode cX4_readRest 108 = .ok (.aload_n 0, 1) := by decide +kernel
theorem dX4_readRest_109 : decode cX4_readRest 109 = .ok (.getfield 30, 3) := by decide +kernel
theorem dX4_readRest_112 : decode cX4_readRest 112 = .ok (.ifCond .ne 7, 3) := by decide +kernel
theorem dX4_readRest_115 : decode cX4_readRest 115 = .ok (.aload_n 0, 1) := by decide +kernel
theorem dX4_readRest_116 : decode cX4_readRest 116 = .ok (.invokevirtual 47, 3) := by decide +kernel
theorem dX4_readRest_119 : decode cX4_readRest 119 = .ok (.return_, 1) := by decide +kernel
theorem dX4_readNumber_0 : decode cX4_readNumber 0 = .ok (.aload_n 0, 1) := by decide +kernel
theorem dX4_readNumber_1 : decode cX4_readNumber 1 = .ok (.getfield 24, 3) := by decide +kernel
theorem dX4_readNumber_4 : decode cX4_readNumber 4 = .ok (.istore_n 3, 1) := by decide +kernel
theorem dX4_readNumber_5 : decode cX4_readNumber 5 = .ok (.iconst 0, 1) := by decide +kernel
theorem dX4_readNumber_6 : decode cX4_readNumber 6 = .ok (.istore 4, 2) := by decide +kernel
theorem dX4_readNumber_8 : decode cX4_readNumber 8 = .ok (.iconst 0, 1) := by decide +kernel
theorem dX4_readNumber_9 : decode cX4_readNumber 9 = .ok (.istore 5, 2) := by decide +kernel
theorem dX4_readNumber_11 : decode cX4_readNumber 11 = .ok (.iload 5, 2) := by decide +kernel
theorem dX4_readNumber_13 : decode cX4_readNumber 13 = .ok (.iload_n 1, 1) := by decide +kernel
theorem dX4_readNumber_14 : decode cX4_readNumber 14 = .ok (.if_icmp .ge 44, 3) := by decide +kernel
theorem dX4_readNumber_17 : decode cX4_readNumber 17 = .ok (.aload_n 0, 1) := by decide +kernel
theorem dX4_readNumber_18 : decode cX4_readNumber 18 = .ok (.invokevirtual 39, 3) := by decide +kernel
theorem dX4_readNumber_21 : decode cX4_readNumber 21 = .ok (.invokestatic 73, 3) := by decide +kernel
theorem dX4_readNumber_24 : decode cX4_readNumber 24 = .ok (.ifCond .eq 34, 3) := by decide +kernel
theorem dX4_readNumber_27 : decode cX4_readNumber 27 = .ok (.iload 4, 2) := by decide +kernel
theorem dX4_readNumber_29 : decode cX4_readNumber 29 = .ok (.bipush 10, 2) := by decide +kernel
theorem dX4_readNumber_31 : decode cX4_readNumber 31 = .ok (.imul, 1) := by decide +kernel
theorem dX4_readNumber_32 : decode cX4_readNumber 32 = .ok (.aload_n 0, 1) := by decide +kernel
theorem dX4_readNumber_33 : decode cX4_readNumber 33 = .ok (.invokevirtual 39, 3) := by decide +kernel
theorem dX4_readNumber_36 : decode cX4_readNumber 36 = .ok (.bipush 48, 2) := by decide +kernel
theorem dX4_readNumber_38 : decode cX4_readNumber 38 = .ok (.isub, 1) := by decide +kernel
theorem dX4_readNumber_39 : decode cX4_readNumber 39 = .ok (.iadd, 1) := by decide +kernel
theorem dX4_readNumber_40 : decode cX4_readNumber 40 = .ok (.istore 4, 2) := by decide +kernel
theorem dX4_readNumber_42 : decode cX4_readNumber 42 = .ok (.aload_n 0, 1) := by decide +kernel
theorem dX4_readNumber_43 : decode cX4_readNumber 43 = .ok (.dup, 1) := by decide +kernel
theorem dX4_readNumber_44 : decode cX4_readNumber 44 = .ok (.getfield 24, 3) := by decide +kernel
theorem dX4_readNumber_47 : decode cX4_readNumber 47 = .ok (.iconst 1, 1) := by decide +kernel
theorem dX4_readNumber_48 : decode cX4_readNumber 48 = .ok (.iadd, 1) := by decide +kernel
theorem dX4_readNumber_49 : decode cX4_readNumber 49 = .ok (.putfield 24, 3) := by decide +kernel
theorem dX4_readNumber_52 : decode cX4_readNumber 52 = .ok (.iinc 5 1, 3) := by decide +kernel
theorem dX4_readNumber_55 : decode cX4_readNumber 55 = .ok (.goto (-44), 3) := by decide +kernel
theorem dX4_readNumber_58 : decode cX4_readNumber 58 = .ok (.aload_n 0, 1) := by decide +kernel
theorem dX4_readNumber_59 : decode cX4_readNumber 59 = .ok (.getfield 24, 3) := by decide +kernel
theorem dX4_readNumber_62 : decode cX4_readNumber 62 = .ok (.iload_n 3, 1) := by decide +kernel
theorem dX4_readNumber_63 : decode cX4_readNumber 63 = .ok (.if_icmp .ne 10, 3) := by decide +kernel
theorem dX4_readNumber_66 : decode cX4_readNumber 66 = .ok (.aload_n 0, 1) := by decide +kernel
theorem dX4_readNumber_67 : decode cX4_readNumber 67 = .ok (.invokevirtual 47, 3) := by decide +kernel
theorem dX4_readNumber_70 : decode cX4_readNumber 70 = .ok (.goto 21, 3) := by decide +kernel
theorem dX4_readNumber_73 : decode cX4_readNumber 73 = .ok (.iload 4, 2) := by decide +kernel
theorem dX4_readNumber_75 : decode cX4_readNumber 75 = .ok (.iconst 1, 1) := by decide +kernel
theorem dX4_readNumber_76 : decode cX4_readNumber 76 = .ok (.if_icmp .lt 9, 3) := by decide +kernel
theorem dX4_readNumber_79 : decode cX4_readNumber 79 = .ok (.iload 4, 2) := by decide +kernel
theorem dX4_readNumber_81 : decode cX4_readNumber 81 = .ok (.iload_n 2, 1) := by decide +kernel
theorem dX4_readNumber_82 : decode cX4_readNumber 82 = .ok (.if_icmp .le 9, 3) := by decide +kernel
theorem dX4_readNumber_85 : decode cX4_readNumber 85 = .ok (.aload_n 0, 1) := by decide +kernel
theorem dX4_readNumber_86 : decode cX4_readNumber 86 = .ok (.iload_n 3, 1) := by decide +kernel
theorem dX4_readNumber_87 : decode cX4_readNumber 87 = .ok (.iconst 2, 1) := by decide +kernel
theorem dX4_readNumber_88 : decode cX4_readNumber 88 = .ok (.invokevirtual 50, 3) := by decide +kernel
theorem dX4_readNumber_91 : decode cX4_readNumber 91 = .ok (.iload 4, 2) := by decide +kernel
theorem dX4_readNumber_93 : decode cX4_readNumber 93 = .ok (.ireturn, 1) := by decide +kernel
theorem dX4_readPiece_0 : decode cX4_readPiece 0 = .ok (.aload_n 0, 1) := by decide +kernel
theorem dX4_readPiece_1 : decode cX4_readPiece 1 = .ok (.invokevirtual 39, 3) := by decide +kernel
theorem dX4_readPiece_4 : decode cX4_readPiece 4 = .ok (.bipush 48, 2) := by decide +kernel
theorem dX4_readPiece_6 : decode cX4_readPiece 6 = .ok (.isub, 1) := by decide +kernel
theorem dX4_readPiece_7 : decode cX4_readPiece 7 = .ok (.istore_n 1, 1) := by decide +kernel
theorem dX4_readPiece_8 : decode cX4_readPiece 8 = .ok (.iload_n 1, 1) := by decide +kernel
theorem dX4_readPiece_9 : decode cX4_readPiece 9 = .ok (.ifCond .lt 8, 3) := by decide +kernel
theorem dX4_readPiece_12 : decode cX4_readPiece 12 = .ok (.iload_n 1, 1) := by decide +kernel
theorem dX4_readPiece_13 : decode cX4_readPiece 13 = .ok (.iconst 3, 1) := by decide +kernel
theorem dX4_readPiece_14 : decode cX4_readPiece 14 = .ok (.if_icmp .lt 9, 3) := by decide +kernel
theorem dX4_readPiece_17 : decode cX4_readPiece 17 = .ok (.aload_n 0, 1) := by decide +kernel
theorem dX4_readPiece_18 : decode cX4_readPiece 18 = .ok (.invokevirtual 47, 3) := by decide +kernel
theorem dX4_readPiece_21 : decode cX4_readPiece 21 = .ok (.iconst (-1), 1) := by decide +kernel
theorem dX4_readPiece_22 : decode cX4_readPiece 22 = .ok (.ireturn, 1) := by decide +kernel
theorem dX4_readPiece_23 : decode cX4_readPiece 23 = .ok (.aload_n 0, 1) := by decide +kernel
theorem dX4_readPiece_24 : decode cX4_readPiece 24 = .ok (.dup, 1) := by decide +kernel
theorem dX4_readPiece_25 : decode cX4_readPiece 25 = .ok (.getfield 24, 3) := by decide +kernel
theorem dX4_readPiece_28 : decode cX4_readPiece 28 = .ok (.iconst 1, 1) := by decide +kernel
theorem dX4_readPiece_29 : decode cX4_readPiece 29 = .ok (.iadd, 1) := by decide +kernel
theorem dX4_readPiece_30 : decode cX4_readPiece 30 = .ok (.putfield 24, 3) := by decide +kernel
theorem dX4_readPiece_33 : decode cX4_readPiece 33 = .ok (.iload_n 1, 1) := by decide +kernel
theorem dX4_readPiece_34 : decode cX4_readPiece 34 = .ok (.ireturn, 1) := by decide +kernel
theorem dX4_passes_0 : decode cX4_passes 0 = .ok (.aload_n 0, 1) := by decide +kernel
theorem dX4_passes_1 : decode cX4_passes 1 = .ok (.getfield 30, 3) := by decide +kernel
theorem dX4_passes_4 : decode cX4_passes 4 = .ok (.ifCond .ne 11, 3) := by decide +kernel
theorem dX4_passes_7 : decode cX4_passes 7 = .ok (.aload_n 0, 1) := by decide +kernel
theorem dX4_passes_8 : decode cX4_passes 8 = .ok (.invokevirtual 39, 3) := by decide +kernel
theorem dX4_passes_11 : decode cX4_passes 11 = .ok (.iload_n 1, 1) := by decide +kernel
theorem dX4_passes_12 : decode cX4_passes 12 = .ok (.if_icmp .eq 5, 3) := by decide +kernel
theorem dX4_passes_15 : decode cX4_passes 15 = .ok (.iconst 0, 1) := by decide +kernel
theorem dX4_passes_16 : decode cX4_passes 16 = .ok (.ireturn, 1) := by decide +kernel
theorem dX4_passes_17 : decode cX4_passes 17 = .ok (.aload_n 0, 1) := by decide +kernel
theorem dX4_passes_18 : decode cX4_passes 18 = .ok (.dup, 1) := by decide +kernel
theorem dX4_passes_19 : decode cX4_passes 19 = .ok (.getfield 24, 3) := by decide +kernel
theorem dX4_passes_22 : decode cX4_passes 22 = .ok (.iconst 1, 1) := by decide +kernel
theorem dX4_passes_23 : decode cX4_passes 23 = .ok (.iadd, 1) := by decide +kernel
theorem dX4_passes_24 : decode cX4_passes 24 = .ok (.putfield 24, 3) := by decide +kernel
theorem dX4_passes_27 : decode cX4_passes 27 = .ok (.iconst 1, 1) := by decide +kernel
theorem dX4_passes_28 : decode cX4_passes 28 = .ok (.ireturn, 1) := by decide +kernel
theorem dX4_current_0 : decode cX4_current 0 = .ok (.aload_n 0, 1) := by decide +kernel
theorem dX4_current_1 : decode cX4_current 1 = .ok (.getfield 24, 3) := by decide +kernel
theorem dX4_current_4 : decode cX4_current 4 = .ok (.ifCond .lt 35, 3) := by decide +kernel
theorem dX4_current_7 : decode cX4_current 7 = .ok (.aload_n 0, 1) := by decide +kernel
theorem dX4_current_8 : decode cX4_current 8 = .ok (.getfield 24, 3) := by decide +kernel
theorem dX4_current_11 : decode cX4_current 11 = .ok (.aload_n 0, 1) := by decide +kernel
theorem dX4_current_12 : decode cX4_current 12 = .ok (.getfield 20, 3) := by decide +kernel
theorem dX4_current_15 : decode cX4_current 15 = .ok (.if_icmp .ge 24, 3) := by decide +kernel
theorem dX4_current_18 : decode cX4_current 18 = .ok (.aload_n 0, 1) := by decide +kernel
theorem dX4_current_19 : decode cX4_current 19 = .ok (.getfield 24, 3) := by decide +kernel
theorem dX4_current_22 : decode cX4_current 22 = .ok (.bipush 100, 2) := by decide +kernel
theorem dX4_current_24 : decode cX4_current 24 = .ok (.if_icmp .ge 15, 3) := by decide +kernel
theorem dX4_current_27 : decode cX4_current 27 = .ok (.aload_n 0, 1) := by decide +kernel
theorem dX4_current_28 : decode cX4_current 28 = .ok (.getfield 9, 3) := by decide +kernel
theorem dX4_current_31 : decode cX4_current 31 = .ok (.aload_n 0, 1) := by decide +kernel
theorem dX4_current_32 : decode cX4_current 32 = .ok (.getfield 24, 3) := by decide +kernel
theorem dX4_current_35 : decode cX4_current 35 = .ok (.caload, 1) := by decide +kernel
theorem dX4_current_36 : decode cX4_current 36 = .ok (.goto 4, 3) := by decide +kernel
theorem dX4_current_39 : decode cX4_current 39 = .ok (.iconst (-1), 1) := by decide +kernel
theorem dX4_current_40 : decode cX4_current 40 = .ok (.ireturn, 1) := by decide +kernel
theorem dX4_blameCurrent_0 : decode cX4_blameCurrent 0 = .ok (.aload_n 0, 1) := by decide +kernel
theorem dX4_blameCurrent_1 : decode cX4_blameCurrent 1 = .ok (.aload_n 0, 1) := by decide +kernel
theorem dX4_blameCurrent_2 : decode cX4_blameCurrent 2 = .ok (.getfield 24, 3) := by decide +kernel
theorem dX4_blameCurrent_5 : decode cX4_blameCurrent 5 = .ok (.aload_n 0, 1) := by decide +kernel
theorem dX4_blameCurrent_6 : decode cX4_blameCurrent 6 = .ok (.getfield 24, 3) := by decide +kernel
theorem dX4_blameCurrent_9 : decode cX4_blameCurrent 9 = .ok (.aload_n 0, 1) := by decide +kernel
theorem dX4_blameCurrent_10 : decode cX4_blameCurrent 10 = .ok (.getfield 20, 3) := by decide +kernel
theorem dX4_blameCurrent_13 : decode cX4_blameCurrent 13 = .ok (.if_icmp .ge 7, 3) := by decide +kernel
theorem dX4_blameCurrent_16 : decode cX4_blameCurrent 16 = .ok (.iconst 1, 1) := by decide +kernel
theorem dX4_blameCurrent_17 : decode cX4_blameCurrent 17 = .ok (.goto 4, 3) := by decide +kernel
theorem dX4_blameCurrent_20 : decode cX4_blameCurrent 20 = .ok (.iconst 3, 1) := by decide +kernel
theorem dX4_blameCurrent_21 : decode cX4_blameCurrent 21 = .ok (.invokevirtual 50, 3) := by decide +kernel
theorem dX4_blameCurrent_24 : decode cX4_blameCurrent 24 = .ok (.return_, 1) := by decide +kernel
theorem dX4_blame_0 : decode cX4_blame 0 = .ok (.aload_n 0, 1) := by decide +kernel
theorem dX4_blame_1 : decode cX4_blame 1 = .ok (.iload_n 1, 1) := by decide +kernel
theorem dX4_blame_2 : decode cX4_blame 2 = .ok (.putfield 27, 3) := by decide +kernel
theorem dX4_blame_5 : decode cX4_blame 5 = .ok (.aload_n 0, 1) := by decide +kernel
theorem dX4_blame_6 : decode cX4_blame 6 = .ok (.iload_n 2, 1) := by decide +kernel
theorem dX4_blame_7 : decode cX4_blame 7 = .ok (.putfield 30, 3) := by decide +kernel
theorem dX4_blame_10 : decode cX4_blame 10 = .ok (.return_, 1) := by decide +kernel
theorem dX4_isDigit_0 : decode cX4_isDigit 0 = .ok (.iload_n 0, 1) := by decide +kernel
theorem dX4_isDigit_1 : decode cX4_isDigit 1 = .ok (.bipush 48, 2) := by decide +kernel
theorem dX4_isDigit_3 : decode cX4_isDigit 3 = .ok (.if_icmp .lt 13, 3) := by decide +kernel
theorem dX4_isDigit_6 : decode cX4_isDigit 6 = .ok (.iload_n 0, 1) := by decide +kernel
theorem dX4_isDigit_7 : decode cX4_isDigit 7 = .ok (.bipush 57, 2) := by decide +kernel
theorem dX4_isDigit_9 : decode cX4_isDigit 9 = .ok (.if_icmp .gt 7, 3) := by decide +kernel
theorem dX4_isDigit_12 : decode cX4_isDigit 12 = .ok (.iconst 1, 1) := by decide +kernel
theorem dX4_isDigit_13 : decode cX4_isDigit 13 = .ok (.goto 4, 3) := by decide +kernel
theorem dX4_isDigit_16 : decode cX4_isDigit 16 = .ok (.iconst 0, 1) := by decide +kernel
theorem dX4_isDigit_17 : decode cX4_isDigit 17 = .ok (.ireturn, 1) := by decide +kernel
theorem dX4_kindOf_0 : decode cX4_kindOf 0 = .ok (.iload_n 0, 1) := by decide +kernel
theorem dX4_kindOf_1 : decode cX4_kindOf 1 = .ok (.lookupswitch 51 #[(102, 47), (109, 43), (112, 49), (114, 45)], 43) := by decide +kernel
theorem dX4_kindOf_44 : decode cX4_kindOf 44 = .ok (.iconst 0, 1) := by decide +kernel
theorem dX4_kindOf_45 : decode cX4_kindOf 45 = .ok (.ireturn, 1) := by decide +kernel
theorem dX4_kindOf_46 : decode cX4_kindOf 46 = .ok (.iconst 1, 1) := by decide +kernel
theorem dX4_kindOf_47 : decode cX4_kindOf 47 = .ok (.ireturn, 1) := by decide +kernel
theorem dX4_kindOf_48 : decode cX4_kindOf 48 = .ok (.iconst 2, 1) := by decide +kernel
theorem dX4_kindOf_49 : decode cX4_kindOf 49 = .ok (.ireturn, 1) := by decide +kernel
theorem dX4_kindOf_50 : decode cX4_kindOf 50 = .ok (.iconst 3, 1) := by decide +kernel
theorem dX4_kindOf_51 : decode cX4_kindOf 51 = .ok (.ireturn, 1) := by decide +kernel
theorem dX4_kindOf_52 : decode cX4_kindOf 52 = .ok (.iconst (-1), 1) := by decide +kernel
theorem dX4_kindOf_53 : decode cX4_kindOf 53 = .ok (.ireturn, 1) := by decide +kernel
theorem dX5_init_0 : decode cX5_init 0 = .ok (.aload_n 0, 1) := by decide +kernel
theorem dX5_init_1 : decode cX5_init 1 = .ok (.invokespecial 3, 3) := by decide +kernel
theorem dX5_init_4 : decode cX5_init 4 = .ok (.return_, 1) := by decide +kernel
theorem dX5_reset_0 : decode cX5_reset 0 = .ok (.aload_n 0, 1) := by decide +kernel
theorem dX5_reset_1 : decode cX5_reset 1 = .ok (.iload_n 1, 1) := by decide +kernel
theorem dX5_reset_2 : decode cX5_reset 2 = .ok (.putfield 9, 3) := by decide +kernel
theorem dX5_reset_5 : decode cX5_reset 5 = .ok (.aload_n 0, 1) := by decide +kernel
theorem dX5_reset_6 : decode cX5_reset 6 = .ok (.iload_n 2, 1) := by decide +kernel
theorem dX5_reset_7 : decode cX5_reset 7 = .ok (.putfield 15, 3) := by decide +kernel
theorem dX5_reset_10 : decode cX5_reset 10 = .ok (.aload_n 0, 1) := by decide +kernel
theorem dX5_reset_11 : decode cX5_reset 11 = .ok (.iconst (-1), 1) := by decide +kernel
theorem dX5_reset_12 : decode cX5_reset 12 = .ok (.putfield 18, 3) := by decide +kernel
theorem dX5_reset_15 : decode cX5_reset 15 = .ok (.aload_n 0, 1) := by decide +kernel
theorem dX5_reset_16 : decode cX5_reset 16 = .ok (.iconst 0, 1) := by decide +kernel
theorem dX5_reset_17 : decode cX5_reset 17 = .ok (.putfield 21, 3) := by decide +kernel
theorem dX5_reset_20 : decode cX5_reset 20 = .ok (.aload_n 0, 1) := by decide +kernel
theorem dX5_reset_21 : decode cX5_reset 21 = .ok (.iconst 0, 1) := by decide +kernel
theorem dX5_reset_22 : decode cX5_reset 22 = .ok (.putfield 24, 3) := by decide +kernel
theorem dX5_reset_25 : decode cX5_reset 25 = .ok (.aload_n 0, 1) := by decide +kernel
theorem dX5_reset_26 : decode cX5_reset 26 = .ok (.iconst 0, 1) := by decide +kernel
theorem dX5_reset_27 : decode cX5_reset 27 = .ok (.putfield 27, 3) := by decide +kernel
theorem dX5_reset_30 : decode cX5_reset 30 = .ok (.return_, 1) := by decide +kernel
theorem dX5_copyFrom_0 : decode cX5_copyFrom 0 = .ok (.aload_n 0, 1) := by decide +kernel
theorem dX5_copyFrom_1 : decode cX5_copyFrom 1 = .ok (.aload_n 1, 1) := by decide +kernel
theorem dX5_copyFrom_2 : decode cX5_copyFrom 2 = .ok (.getfield 9, 3) := by decide +kernel
theorem dX5_copyFrom_5 : decode cX5_copyFrom 5 = .ok (.putfield 9, 3) := by decide +kernel
theorem dX5_copyFrom_8 : decode cX5_copyFrom 8 = .ok (.aload_n 0, 1) := by decide +kernel
theorem dX5_copyFrom_9 : decode cX5_copyFrom 9 = .ok (.aload_n 1, 1) := by decide +kernel
theorem dX5_copyFrom_10 : decode cX5_copyFrom 10 = .ok (.getfield 15, 3) := by decide +kernel
theorem dX5_copyFrom_13 : decode cX5_copyFrom 13 = .ok (.putfield 15, 3) := by decide +kernel
theorem dX5_copyFrom_16 : decode cX5_copyFrom 16 = .ok (.aload_n 0, 1) := by decide +kernel
theorem dX5_copyFrom_17 : decode cX5_copyFrom 17 = .ok (.aload_n 1, 1) := by decide +kernel
theorem dX5_copyFrom_18 : decode cX5_copyFrom 18 = .ok (.getfield 18, 3) := by decide +kernel
theorem dX5_copyFrom_21 : decode cX5_copyFrom 21 = .ok (.putfield 18, 3) := by decide +kernel
theorem dX5_copyFrom_24 : decode cX5_copyFrom 24 = .ok (.aload_n 0, 1) := by decide +kernel
theorem dX5_copyFrom_25 : decode cX5_copyFrom 25 = .ok (.aload_n 1, 1) := by decide +kernel
theorem dX5_copyFrom_26 : decode cX5_copyFrom 26 = .ok (.getfield 21, 3) := by decide +kernel
theorem dX5_copyFrom_29 : decode cX5_copyFrom 29 = .ok (.putfield 21, 3) := by decide +kernel
theorem dX5_copyFrom_32 : decode cX5_copyFrom 32 = .ok (.aload_n 0, 1) := by decide +kernel
theorem dX5_copyFrom_33 : decode cX5_copyFrom 33 = .ok (.aload_n 1, 1) := by decide +kernel
theorem dX5_copyFrom_34 : decode cX5_copyFrom 34 = .ok (.getfield 24, 3) := by decide +kernel
theorem dX5_copyFrom_37 : decode cX5_copyFrom 37 = .ok (.putfield 24, 3) := by decide +kernel
theorem dX5_copyFrom_40 : decode cX5_copyFrom 40 = .ok (.aload_n 0, 1) := by decide +kernel
theorem dX5_copyFrom_41 : decode cX5_copyFrom 41 = .ok (.aload_n 1, 1) := by decide +kernel
theorem dX5_copyFrom_42 : decode cX5_copyFrom 42 = .ok (.getfield 27, 3) := by decide +kernel
theorem dX5_copyFrom_45 : decode cX5_copyFrom 45 = .ok (.putfield 27, 3) := by decide +kernel
theorem dX5_copyFrom_48 : decode cX5_copyFrom 48 = .ok (.return_, 1) := by decide +kernel
theorem dX5_isFreeAfter_0 : decode cX5_isFreeAfter 0 = .ok (.aload_n 0, 1) := by decide +kernel
theorem dX5_isFreeAfter_1 : decode cX5_isFreeAfter 1 = .ok (.getfield 18, 3) := by decide +kernel
theorem dX5_isFreeAfter_4 : decode cX5_isFreeAfter 4 = .ok (.iconst (-1), 1) := by decide +kernel
theorem dX5_isFreeAfter_5 : decode cX5_isFreeAfter 5 = .ok (.if_icmp .ne 22, 3) := by decide +kernel
theorem dX5_isFreeAfter_8 : decode cX5_isFreeAfter 8 = .ok (.aload_n 0, 1) := by decide +kernel
theorem dX5_isFreeAfter_9 : decode cX5_isFreeAfter 9 = .ok (.getfield 27, 3) := by decide +kernel
theorem dX5_isFreeAfter_12 : decode cX5_isFreeAfter 12 = .ok (.ifCond .ne 15, 3) := by decide +kernel
theorem dX5_isFreeAfter_15 : decode cX5_isFreeAfter 15 = .ok (.aload_n 0, 1) := by decide +kernel
theorem dX5_isFreeAfter_16 : decode cX5_isFreeAfter 16 = .ok (.getfield 21, 3) := by decide +kernel
theorem dX5_isFreeAfter_19 : decode cX5_isFreeAfter 19 = .ok (.iload_n 1, 1) := by decide +kernel
theorem dX5_isFreeAfter_20 : decode cX5_isFreeAfter 20 = .ok (.if_icmp .gt 7, 3) := by decide +kernel
theorem dX5_isFreeAfter_23 : decode cX5_isFreeAfter 23 = .ok (.iconst 1, 1) := by decide +kernel
theorem dX5_isFreeAfter_24 : decode cX5_isFreeAfter 24 = .ok (.goto 4, 3) := by decide +kernel
theorem dX5_isFreeAfter_27 : decode cX5_isFreeAfter 27 = .ok (.iconst 0, 1) := by decide +kernel
theorem dX5_isFreeAfter_28 : decode cX5_isFreeAfter 28 = .ok (.ireturn, 1) := by decide +kernel
theorem dX6_init_0 : decode cX6_init 0 = .ok (.aload_n 0, 1) := by decide +kernel
theorem dX6_init_1 : decode cX6_init 1 = .ok (.invokespecial 1, 3) := by decide +kernel
theorem dX6_init_4 : decode cX6_init 4 = .ok (.aload_n 0, 1) := by decide +kernel
theorem dX6_init_5 : decode cX6_init 5 = .ok (.new 7, 3) := by decide +kernel
theorem dX6_init_8 : decode cX6_init 8 = .ok (.dup, 1) := by decide +kernel
theorem dX6_init_9 : decode cX6_init 9 = .ok (.invokespecial 9, 3) := by decide +kernel
theorem dX6_init_12 : decode cX6_init 12 = .ok (.putfield 10, 3) := by decide +kernel
theorem dX6_init_15 : decode cX6_init 15 = .ok (.aload_n 0, 1) := by decide +kernel
theorem dX6_init_16 : decode cX6_init 16 = .ok (.new 16, 3) := by decide +kernel
theorem dX6_init_19 : decode cX6_init 19 = .ok (.dup, 1) := by decide +kernel
theorem dX6_init_20 : decode cX6_init 20 = .ok (.invokespecial 18, 3) := by decide +kernel
theorem dX6_init_23 : decode cX6_init 23 = .ok (.putfield 19, 3) := by decide +kernel
theorem dX6_init_26 : decode cX6_init 26 = .ok (.aload_n 0, 1) := by decide +kernel
theorem dX6_init_27 : decode cX6_init 27 = .ok (.new 23, 3) := by decide +kernel
theorem dX6_init_30 : decode cX6_init 30 = .ok (.dup, 1) := by decide +kernel
theorem dX6_init_31 : decode cX6_init 31 = .ok (.aload_n 0, 1) := by decide +kernel
theorem dX6_init_32 : decode cX6_init 32 = .ok (.getfield 10, 3) := by decide +kernel
theorem dX6_init_35 : decode cX6_init 35 = .ok (.invokespecial 25, 3) := by decide +kernel
theorem dX6_init_38 : decode cX6_init 38 = .ok (.putfield 28, 3) := by decide +kernel
theorem dX6_init_41 : decode cX6_init 41 = .ok (.aload_n 0, 1) := by decide +kernel
theorem dX6_init_42 : decode cX6_init 42 = .ok (.new 23, 3) := by decide +kernel
theorem dX6_init_45 : decode cX6_init 45 = .ok (.dup, 1) := by decide +kernel
theorem dX6_init_46 : decode cX6_init 46 = .ok (.aload_n 0, 1) := by decide +kernel
theorem dX6_init_47 : decode cX6_init 47 = .ok (.getfield 10, 3) := by decide +kernel
theorem dX6_init_50 : decode cX6_init 50 = .ok (.invokespecial 25, 3) := by decide +kernel
theorem dX6_init_53 : decode cX6_init 53 = .ok (.putfield 32, 3) := by decide +kernel
theorem dX6_init_56 : decode cX6_init 56 = .ok (.aload_n 0, 1) := by decide +kernel
theorem dX6_init_57 : decode cX6_init 57 = .ok (.iconst 4, 1) := by decide +kernel
theorem dX6_init_58 : decode cX6_init 58 = .ok (.anewarray 23, 3) := by decide +kernel
theorem dX6_init_61 : decode cX6_init 61 = .ok (.putfield 35, 3) := by decide +kernel
theorem dX6_init_64 : decode cX6_init 64 = .ok (.iconst 0, 1) := by decide +kernel
theorem dX6_init_65 : decode cX6_init 65 = .ok (.istore_n 1, 1) := by decide +kernel
theorem dX6_init_66 : decode cX6_init 66 = .ok (.iload_n 1, 1) := by decide +kernel
theorem dX6_init_67 : decode cX6_init 67 = .ok (.iconst 4, 1) := by decide +kernel
theorem dX6_init_68 : decode cX6_init 68 = .ok (.if_icmp .ge 26, 3) := by decide +kernel
theorem dX6_init_71 : decode cX6_init 71 = .ok (.aload_n 0, 1) := by decide +kernel
theorem dX6_init_72 : decode cX6_init 72 = .ok (.getfield 35, 3) := by decide +kernel
theorem dX6_init_75 : decode cX6_init 75 = .ok (.iload_n 1, 1) := by decide +kernel
theorem dX6_init_76 : decode cX6_init 76 = .ok (.new 23, 3) := by decide +kernel
theorem dX6_init_79 : decode cX6_init 79 = .ok (.dup, 1) := by decide +kernel
theorem dX6_init_80 : decode cX6_init 80 = .ok (.aload_n 0, 1) := by decide +kernel
theorem dX6_init_81 : decode cX6_init 81 = .ok (.getfield 10, 3) := by decide +kernel
theorem dX6_init_84 : decode cX6_init 84 = .ok (.invokespecial 25, 3) := by decide +kernel
theorem dX6_init_87 : decode cX6_init 87 = .ok (.aastore, 1) := by decide +kernel
theorem dX6_init_88 : decode cX6_init 88 = .ok (.iinc 1 1, 3) := by decide +kernel
theorem dX6_init_91 : decode cX6_init 91 = .ok (.goto (-25), 3) := by decide +kernel
theorem dX6_init_94 : decode cX6_init 94 = .ok (.return_, 1) := by decide +kernel
theorem dX6_unit_0 : decode cX6_unit 0 = .ok (.iload_n 1, 1) := by decide +kernel
theorem dX6_unit_1 : decode cX6_unit 1 = .ok (.iconst 0, 1) := by decide +kernel
theorem dX6_unit_2 : decode cX6_unit 2 = .ok (.iconst 3, 1) := by decide +kernel
theorem dX6_unit_3 : decode cX6_unit 3 = .ok (.invokestatic 39, 3) := by decide +kernel
theorem dX6_unit_6 : decode cX6_unit 6 = .ok (.ifCond .eq 14, 3) := by decide +kernel
theorem dX6_unit_9 : decode cX6_unit 9 = .ok (.iload_n 2, 1) := by decide +kernel
theorem dX6_unit_10 : decode cX6_unit 10 = .ok (.iconst 1, 1) := by decide +kernel
theorem dX6_unit_11 : decode cX6_unit 11 = .ok (.sipush 10000, 3) := by decide +kernel
theorem dX6_unit_14 : decode cX6_unit 14 = .ok (.invokestatic 39, 3) := by decide +kernel
theorem dX6_unit_17 : decode cX6_unit 17 = .ok (.ifCond .ne 5, 3) := by decide +kernel
theorem dX6_unit_20 : decode cX6_unit 20 = .ok (.iconst (-1), 1) := by decide +kernel
theorem dX6_unit_21 : decode cX6_unit 21 = .ok (.ireturn, 1) := by decide +kernel
theorem dX6_unit_22 : decode cX6_unit 22 = .ok (.aload_n 0, 1) := by decide +kernel
theorem dX6_unit_23 : decode cX6_unit 23 = .ok (.getfield 28, 3) := by decide +kernel
theorem dX6_unit_26 : decode cX6_unit 26 = .ok (.getfield 43, 3) := by decide +kernel
theorem dX6_unit_29 : decode cX6_unit 29 = .ok (.bipush 8, 2) := by decide +kernel
theorem dX6_unit_31 : decode cX6_unit 31 = .ok (.if_icmp .lt 6, 3) := by decide +kernel
theorem dX6_unit_34 : decode cX6_unit 34 = .ok (.bipush (-3), 2) := by decide +kernel
theorem dX6_unit_36 : decode cX6_unit 36 = .ok (.ireturn, 1) := by decide +kernel
theorem dX6_unit_37 : decode cX6_unit 37 = .ok (.aload_n 0, 1) := by decide +kernel
theorem dX6_unit_38 : decode cX6_unit 38 = .ok (.invokevirtual 47, 3) := by decide +kernel
theorem dX6_unit_41 : decode cX6_unit 41 = .ok (.aload_n 0, 1) := by decide +kernel
theorem dX6_unit_42 : decode cX6_unit 42 = .ok (.getfield 28, 3) := by decide +kernel
theorem dX6_unit_45 : decode cX6_unit 45 = .ok (.iload_n 1, 1) := by decide +kernel
theorem dX6_unit_46 : decode cX6_unit 46 = .ok (.iload_n 2, 1) := by decide +kernel
theorem dX6_unit_47 : decode cX6_unit 47 = .ok (.invokevirtual 50, 3) := by decide +kernel
theorem dX6_unit_50 : decode cX6_unit 50 = .ok (.ireturn, 1) := by decide +kernel
theorem dX6_fail_0 : decode cX6_fail 0 = .ok (.aload_n 0, 1) := by decide +kernel
theorem dX6_fail_1 : decode cX6_fail 1 = .ok (.iload_n 1, 1) := by decide +kernel
theorem dX6_fail_2 : decode cX6_fail 2 = .ok (.invokevirtual 54, 3) := by decide +kernel
theorem dX6_fail_5 : decode cX6_fail 5 = .ok (.ifCond .ne 5, 3) := by decide +kernel
theorem dX6_fail_8 : decode cX6_fail 8 = .ok (.iconst (-1), 1) := by decide +kernel
theorem dX6_fail_9 : decode cX6_fail 9 = .ok (.ireturn, 1) := by decide +kernel
theorem dX6_fail_10 : decode cX6_fail 10 = .ok (.aload_n 0, 1) := by decide +kernel
theorem dX6_fail_11 : decode cX6_fail 11 = .ok (.getfield 28, 3) := by decide +kernel
theorem dX6_fail_14 : decode cX6_fail 14 = .ok (.getfield 58, 3) := by decide +kernel
theorem dX6_fail_17 : decode cX6_fail 17 = .ok (.iload_n 1, 1) := by decide +kernel
theorem dX6_fail_18 : decode cX6_fail 18 = .ok (.aaload, 1) := by decide +kernel
theorem dX6_fail_19 : decode cX6_fail 19 = .ok (.getfield 62, 3) := by decide +kernel
theorem dX6_fail_22 : decode cX6_fail 22 = .ok (.ifCond .eq 6, 3) := by decide +kernel
theorem dX6_fail_25 : decode cX6_fail 25 = .ok (.bipush (-2), 2) := by decide +kernel
theorem dX6_fail_27 : decode cX6_fail 27 = .ok (.ireturn, 1) := by decide +kernel
theorem dX6_fail_28 : decode cX6_fail 28 = .ok (.aload_n 0, 1) := by decide +kernel
theorem dX6_fail_29 : decode cX6_fail 29 = .ok (.invokevirtual 47, 3) := by decide +kernel
theorem dX6_fail_32 : decode cX6_fail 32 = .ok (.aload_n 0, 1) := by decide +kernel
theorem dX6_fail_33 : decode cX6_fail 33 = .ok (.getfield 28, 3) := by decide +kernel
theorem dX6_fail_36 : decode cX6_fail 36 = .ok (.iload_n 1, 1) := by decide +kernel
theorem dX6_fail_37 : decode cX6_fail 37 = .ok (.invokevirtual 68, 3) := by decide +kernel
theorem dX6_fail_40 : decode cX6_fail 40 = .ok (.invokestatic 72, 3) := by decide +kernel
theorem dX6_fail_43 : decode cX6_fail 43 = .ok (.ireturn, 1) := by decide +kernel
theorem dX6_repair_0 : decode cX6_repair 0 = .ok (.aload_n 0, 1) := by decide +kernel
theorem dX6_repair_1 : decode cX6_repair 1 = .ok (.iload_n 1, 1) := by decide +kernel
theorem dX6_repair_2 : decode cX6_repair 2 = .ok (.invokevirtual 54, 3) := by decide +kernel
theorem dX6_repair_5 : decode cX6_repair 5 = .ok (.ifCond .ne 5, 3) := by decide +kernel
theorem dX6_repair_8 : decode cX6_repair 8 = .ok (.iconst (-1), 1) := by decide +kernel
theorem dX6_repair_9 : decode cX6_repair 9 = .ok (.ireturn, 1) := by decide +kernel
theorem dX6_repair_10 : decode cX6_repair 10 = .ok (.aload_n 0, 1) := by decide +kernel
theorem dX6_repair_11 : decode cX6_repair 11 = .ok (.getfield 28, 3) := by decide +kernel
theorem dX6_repair_14 : decode cX6_repair 14 = .ok (.getfield 58, 3) := by decide +kernel
theorem dX6_repair_17 : decode cX6_repair 17 = .ok (.iload_n 1, 1) := by decide +kernel
theorem dX6_repair_18 : decode cX6_repair 18 = .ok (.aaload, 1) := by decide +kernel
theorem dX6_repair_19 : decode cX6_repair 19 = .ok (.getfield 62, 3) := by decide +kernel
theorem dX6_repair_22 : decode cX6_repair 22 = .ok (.ifCond .ne 6, 3) := by decide +kernel
theorem dX6_repair_25 : decode cX6_repair 25 = .ok (.bipush (-2), 2) := by decide +kernel
theorem dX6_repair_27 : decode cX6_repair 27 = .ok (.ireturn, 1) := by decide +kernel
theorem dX6_repair_28 : decode cX6_repair 28 = .ok (.aload_n 0, 1) := by decide +kernel
theorem dX6_repair_29 : decode cX6_repair 29 = .ok (.invokevirtual 47, 3) := by decide +kernel
theorem dX6_repair_32 : decode cX6_repair 32 = .ok (.aload_n 0, 1) := by decide +kernel
theorem dX6_repair_33 : decode cX6_repair 33 = .ok (.getfield 28, 3) := by decide +kernel
theorem dX6_repair_36 : decode cX6_repair 36 = .ok (.getfield 58, 3) := by decide +kernel
theorem dX6_repair_39 : decode cX6_repair 39 = .ok (.iload_n 1, 1) := by decide +kernel
theorem dX6_repair_40 : decode cX6_repair 40 = .ok (.aaload, 1) := by decide +kernel
theorem dX6_repair_41 : decode cX6_repair 41 = .ok (.iconst 0, 1) := by decide +kernel
theorem dX6_repair_42 : decode cX6_repair 42 = .ok (.putfield 62, 3) := by decide +kernel
theorem dX6_repair_45 : decode cX6_repair 45 = .ok (.aload_n 0, 1) := by decide +kernel
theorem dX6_repair_46 : decode cX6_repair 46 = .ok (.getfield 28, 3) := by decide +kernel
theorem dX6_repair_49 : decode cX6_repair 49 = .ok (.invokevirtual 75, 3) := by decide +kernel
theorem dX6_repair_52 : decode cX6_repair 52 = .ok (.ireturn, 1) := by decide +kernel
theorem dX6_unitInfo_0 : decode cX6_unitInfo 0 = .ok (.aload_n 0, 1) := by decide +kernel
theorem dX6_unitInfo_1 : decode cX6_unitInfo 1 = .ok (.iload_n 1, 1) := by decide +kernel
theorem dX6_unitInfo_2 : decode cX6_unitInfo 2 = .ok (.invokevirtual 54, 3) := by decide +kernel
theorem dX6_unitInfo_5 : decode cX6_unitInfo 5 = .ok (.ifCond .ne 5, 3) := by decide +kernel
theorem dX6_unitInfo_8 : decode cX6_unitInfo 8 = .ok (.iconst (-1), 1) := by decide +kernel
theorem dX6_unitInfo_9 : decode cX6_unitInfo 9 = .ok (.ireturn, 1) := by decide +kernel
theorem dX6_unitInfo_10 : decode cX6_unitInfo 10 = .ok (.aload_n 0, 1) := by decide +kernel
theorem dX6_unitInfo_11 : decode cX6_unitInfo 11 = .ok (.getfield 28, 3) := by decide +kernel
theorem dX6_unitInfo_14 : decode cX6_unitInfo 14 = .ok (.getfield 58, 3) := by decide +kernel
theorem dX6_unitInfo_17 : decode cX6_unitInfo 17 = .ok (.iload_n 1, 1) := by decide +kernel
theorem dX6_unitInfo_18 : decode cX6_unitInfo 18 = .ok (.aaload, 1) := by decide +kernel
theorem dX6_unitInfo_19 : decode cX6_unitInfo 19 = .ok (.astore_n 3, 1) := by decide +kernel
theorem dX6_unitInfo_20 : decode cX6_unitInfo 20 = .ok (.iload_n 2, 1) := by decide +kernel
theorem dX6_unitInfo_21 : decode cX6_unitInfo 21 = .ok (.tableswitch 88 0 6 #[43, 48, 53, 61, 69, 74, 79], 43) := by decide +kernel
theorem dX6_unitInfo_64 : decode cX6_unitInfo 64 = .ok (.aload_n 3, 1) := by decide +kernel
theorem dX6_unitInfo_65 : decode cX6_unitInfo 65 = .ok (.getfield 79, 3) := by decide +kernel
theorem dX6_unitInfo_68 : decode cX6_unitInfo 68 = .ok (.ireturn, 1) := by decide +kernel
theorem dX6_unitInfo_69 : decode cX6_unitInfo 69 = .ok (.aload_n 3, 1) := by decide +kernel
theorem dX6_unitInfo_70 : decode cX6_unitInfo 70 = .ok (.getfield 82, 3) := by decide +kernel
theorem dX6_unitInfo_73 : decode cX6_unitInfo 73 = .ok (.ireturn, 1) := by decide +kernel
theorem dX6_unitInfo_74 : decode cX6_unitInfo 74 = .ok (.aload_n 3, 1) := by decide +kernel
theorem dX6_unitInfo_75 : decode cX6_unitInfo 75 = .ok (.getfield 85, 3) := by decide +kernel
theorem dX6_unitInfo_78 : decode cX6_unitInfo 78 = .ok (.invokestatic 72, 3) := by decide +kernel
theorem dX6_unitInfo_81 : decode cX6_unitInfo 81 = .ok (.ireturn, 1) := by decide +kernel
theorem dX6_unitInfo_82 : decode cX6_unitInfo 82 = .ok (.aload_n 3, 1) := by decide +kernel
theorem dX6_unitInfo_83 : decode cX6_unitInfo 83 = .ok (.getfield 62, 3) := by decide +kernel
theorem dX6_unitInfo_86 : decode cX6_unitInfo 86 = .ok (.invokestatic 88, 3) := by decide +kernel
theorem dX6_unitInfo_89 : decode cX6_unitInfo 89 = .ok (.ireturn, 1) := by decide +kernel
theorem dX6_unitInfo_90 : decode cX6_unitInfo 90 = .ok (.aload_n 3, 1) := by decide +kernel
theorem dX6_unitInfo_91 : decode cX6_unitInfo 91 = .ok (.getfield 92, 3) := by decide +kernel
theorem dX6_unitInfo_94 : decode cX6_unitInfo 94 = .ok (.ireturn, 1) := by decide +kernel
theorem dX6_unitInfo_95 : decode cX6_unitInfo 95 = .ok (.aload_n 3, 1) := by decide +kernel
theorem dX6_unitInfo_96 : decode cX6_unitInfo 96 = .ok (.getfield 95, 3) := by decide +kernel
theorem dX6_unitInfo_99 : decode cX6_unitInfo 99 = .ok (.ireturn, 1) := by decide +kernel
theorem dX6_unitInfo_100 : decode cX6_unitInfo 100 = .ok (.aload_n 3, 1) := by decide +kernel
theorem dX6_unitInfo_101 : decode cX6_unitInfo 101 = .ok (.iconst 0, 1) := by decide +kernel
theorem dX6_unitInfo_102 : decode cX6_unitInfo 102 = .ok (.invokevirtual 98, 3) := by decide +kernel
theorem dX6_unitInfo_105 : decode cX6_unitInfo 105 = .ok (.invokestatic 88, 3) := by decide +kernel
theorem dX6_unitInfo_108 : decode cX6_unitInfo 108 = .ok (.ireturn, 1) := by decide +kernel
theorem dX6_unitInfo_109 : decode cX6_unitInfo 109 = .ok (.iconst (-1), 1) := by decide +kernel
theorem dX6_unitInfo_110 : decode cX6_unitInfo 110 = .ok (.ireturn, 1) := by decide +kernel
theorem dX6_shared_0 : decode cX6_shared 0 = .ok (.iload_n 1, 1) := by decide +kernel
theorem dX6_shared_1 : decode cX6_shared 1 = .ok (.iconst 0, 1) := by decide +kernel
theorem dX6_shared_2 : decode cX6_shared 2 = .ok (.iconst 2, 1) := by decide +kernel
theorem dX6_shared_3 : decode cX6_shared 3 = .ok (.invokestatic 39, 3) := by decide +kernel
theorem dX6_shared_6 : decode cX6_shared 6 = .ok (.ifCond .ne 5, 3) := by decide +kernel
theorem dX6_shared_9 : decode cX6_shared 9 = .ok (.iconst (-1), 1) := by decide +kernel
theorem dX6_shared_10 : decode cX6_shared 10 = .ok (.ireturn, 1) := by decide +kernel
theorem dX6_shared_11 : decode cX6_shared 11 = .ok (.aload_n 0, 1) := by decide +kernel
theorem dX6_shared_12 : decode cX6_shared 12 = .ok (.getfield 28, 3) := by decide +kernel
theorem dX6_shared_15 : decode cX6_shared 15 = .ok (.getfield 101, 3) := by decide +kernel
theorem dX6_shared_18 : decode cX6_shared 18 = .ok (.iload_n 1, 1) := by decide +kernel
theorem dX6_shared_19 : decode cX6_shared 19 = .ok (.iaload, 1) := by decide +kernel
theorem dX6_shared_20 : decode cX6_shared 20 = .ok (.invokestatic 72, 3) := by decide +kernel
theorem dX6_shared_23 : decode cX6_shared 23 = .ok (.ireturn, 1) := by decide +kernel
theorem dX6_setCleaning_0 : decode cX6_setCleaning 0 = .ok (.iload_n 1, 1) := by decide +kernel
theorem dX6_setCleaning_1 : decode cX6_setCleaning 1 = .ok (.iconst 0, 1) := by decide +kernel
theorem dX6_setCleaning_2 : decode cX6_setCleaning 2 = .ok (.bipush 30, 2) := by decide +kernel
theorem dX6_setCleaning_4 : decode cX6_setCleaning 4 = .ok (.invokestatic 39, 3) := by decide +kernel
theorem dX6_setCleaning_7 : decode cX6_setCleaning 7 = .ok (.ifCond .ne 5, 3) := by decide +kernel
theorem dX6_setCleaning_10 : decode cX6_setCleaning 10 = .ok (.iconst (-1), 1) := by decide +kernel
theorem dX6_setCleaning_11 : decode cX6_setCleaning 11 = .ok (.ireturn, 1) := by decide +kernel
theorem dX6_setCleaning_12 : decode cX6_setCleaning 12 = .ok (.aload_n 0, 1) := by decide +kernel
theorem dX6_setCleaning_13 : decode cX6_setCleaning 13 = .ok (.invokevirtual 47, 3) := by decide +kernel
theorem dX6_setCleaning_16 : decode cX6_setCleaning 16 = .ok (.aload_n 0, 1) := by decide +kernel
theorem dX6_setCleaning_17 : decode cX6_setCleaning 17 = .ok (.getfield 28, 3) := by decide +kernel
theorem dX6_setCleaning_20 : decode cX6_setCleaning 20 = .ok (.getfield 105, 3) := by decide +kernel
theorem dX6_setCleaning_23 : decode cX6_setCleaning 23 = .ok (.istore_n 2, 1) := by decide +kernel
theorem dX6_setCleaning_24 : decode cX6_setCleaning 24 = .ok (.aload_n 0, 1) := by decide +kernel
theorem dX6_setCleaning_25 : decode cX6_setCleaning 25 = .ok (.getfield 28, 3) := by decide +kernel
theorem dX6_setCleaning_28 : decode cX6_setCleaning 28 = .ok (.iload_n 1, 1) := by decide +kernel
theorem dX6_setCleaning_29 : decode cX6_setCleaning 29 = .ok (.putfield 105, 3) := by decide +kernel
theorem dX6_setCleaning_32 : decode cX6_setCleaning 32 = .ok (.iload_n 2, 1) := by decide +kernel
theorem dX6_setCleaning_33 : decode cX6_setCleaning 33 = .ok (.ireturn, 1) := by decide +kernel
theorem dX6_recipe_0 : decode cX6_recipe 0 = .ok (.iload_n 1, 1) := by decide +kernel
theorem dX6_recipe_1 : decode cX6_recipe 1 = .ok (.invokestatic 106, 3) := by decide +kernel
theorem dX6_recipe_4 : decode cX6_recipe 4 = .ok (.ifCond .ne 5, 3) := by decide +kernel
theorem dX6_recipe_7 : decode cX6_recipe 7 = .ok (.iconst (-1), 1) := by decide +kernel
theorem dX6_recipe_8 : decode cX6_recipe 8 = .ok (.ireturn, 1) := by decide +kernel
theorem dX6_recipe_9 : decode cX6_recipe 9 = .ok (.aload_n 0, 1) := by decide +kernel
theorem dX6_recipe_10 : decode cX6_recipe 10 = .ok (.getfield 19, 3) := by decide +kernel
theorem dX6_recipe_13 : decode cX6_recipe 13 = .ok (.invokevirtual 109, 3) := by decide +kernel
theorem dX6_recipe_16 : decode cX6_recipe 16 = .ok (.aload_n 0, 1) := by decide +kernel
theorem dX6_recipe_17 : decode cX6_recipe 17 = .ok (.getfield 19, 3) := by decide +kernel
theorem dX6_recipe_20 : decode cX6_recipe 20 = .ok (.getfield 112, 3) := by decide +kernel
theorem dX6_recipe_23 : decode cX6_recipe 23 = .ok (.ifCond .eq 6, 3) := by decide +kernel
theorem dX6_recipe_26 : decode cX6_recipe 26 = .ok (.bipush (-2), 2) := by decide +kernel
theorem dX6_recipe_28 : decode cX6_recipe 28 = .ok (.ireturn, 1) := by decide +kernel
theorem dX6_recipe_29 : decode cX6_recipe 29 = .ok (.aload_n 0, 1) := by decide +kernel
theorem dX6_recipe_30 : decode cX6_recipe 30 = .ok (.getfield 28, 3) := by decide +kernel
theorem dX6_recipe_33 : decode cX6_recipe 33 = .ok (.getfield 115, 3) := by decide +kernel
theorem dX6_recipe_36 : decode cX6_recipe 36 = .ok (.iload_n 1, 1) := by decide +kernel
theorem dX6_recipe_37 : decode cX6_recipe 37 = .ok (.iaload, 1) := by decide +kernel
theorem dX6_recipe_38 : decode cX6_recipe 38 = .ok (.bipush 9, 2) := by decide +kernel
theorem dX6_recipe_40 : decode cX6_recipe 40 = .ok (.if_icmp .lt 6, 3) := by decide +kernel
theorem dX6_recipe_43 : decode cX6_recipe 43 = .ok (.bipush (-3), 2) := by decide +kernel
theorem dX6_recipe_45 : decode cX6_recipe 45 = .ok (.ireturn, 1) := by decide +kernel
theorem dX6_recipe_46 : decode cX6_recipe 46 = .ok (.aload_n 0, 1) := by decide +kernel
theorem dX6_recipe_47 : decode cX6_recipe 47 = .ok (.invokevirtual 47, 3) := by decide +kernel
theorem dX6_recipe_50 : decode cX6_recipe 50 = .ok (.aload_n 0, 1) := by decide +kernel
theorem dX6_recipe_51 : decode cX6_recipe 51 = .ok (.getfield 28, 3) := by decide +kernel
theorem dX6_recipe_54 : decode cX6_recipe 54 = .ok (.getfield 115, 3) := by decide +kernel
theorem dX6_recipe_57 : decode cX6_recipe 57 = .ok (.iload_n 1, 1) := by decide +kernel
theorem dX6_recipe_58 : decode cX6_recipe 58 = .ok (.dup2, 1) := by decide +kernel
theorem dX6_recipe_59 : decode cX6_recipe 59 = .ok (.iaload, 1) := by decide +kernel
theorem dX6_recipe_60 : decode cX6_recipe 60 = .ok (.iconst 1, 1) := by decide +kernel
theorem dX6_recipe_61 : decode cX6_recipe 61 = .ok (.iadd, 1) := by decide +kernel
theorem dX6_recipe_62 : decode cX6_recipe 62 = .ok (.iastore, 1) := by decide +kernel
theorem dX6_recipe_63 : decode cX6_recipe 63 = .ok (.aload_n 0, 1) := by decide +kernel
theorem dX6_recipe_64 : decode cX6_recipe 64 = .ok (.getfield 28, 3) := by decide +kernel
theorem dX6_recipe_67 : decode cX6_recipe 67 = .ok (.getfield 115, 3) := by decide +kernel
theorem dX6_recipe_70 : decode cX6_recipe 70 = .ok (.iload_n 1, 1) := by decide +kernel
theorem dX6_recipe_71 : decode cX6_recipe 71 = .ok (.iaload, 1) := by decide +kernel
theorem dX6_recipe_72 : decode cX6_recipe 72 = .ok (.istore_n 2, 1) := by decide +kernel
theorem dX6_recipe_73 : decode cX6_recipe 73 = .ok (.aload_n 0, 1) := by decide +kernel
theorem dX6_recipe_74 : decode cX6_recipe 74 = .ok (.getfield 10, 3) := by decide +kernel
theorem dX6_recipe_77 : decode cX6_recipe 77 = .ok (.iload_n 1, 1) := by decide +kernel
theorem dX6_recipe_78 : decode cX6_recipe 78 = .ok (.iload_n 2, 1) := by decide +kernel
theorem dX6_recipe_79 : decode cX6_recipe 79 = .ok (.invokestatic 118, 3) := by decide +kernel
theorem dX6_recipe_82 : decode cX6_recipe 82 = .ok (.aload_n 0, 1) := by decide +kernel
theorem dX6_recipe_83 : decode cX6_recipe 83 = .ok (.getfield 19, 3) := by decide +kernel
theorem dX6_recipe_86 : decode cX6_recipe 86 = .ok (.invokevirtual 121, 3) := by decide +kernel
theorem dX6_recipe_89 : decode cX6_recipe 89 = .ok (.iload_n 2, 1) := by decide +kernel
theorem dX6_recipe_90 : decode cX6_recipe 90 = .ok (.ireturn, 1) := by decide +kernel
theorem dX6_versions_0 : decode cX6_versions 0 = .ok (.iload_n 1, 1) := by decide +kernel
theorem dX6_versions_1 : decode cX6_versions 1 = .ok (.invokestatic 106, 3) := by decide +kernel
theorem dX6_versions_4 : decode cX6_versions 4 = .ok (.ifCond .eq 15, 3) := by decide +kernel
theorem dX6_versions_7 : decode cX6_versions 7 = .ok (.aload_n 0, 1) := by decide +kernel
theorem dX6_versions_8 : decode cX6_versions 8 = .ok (.getfield 28, 3) := by decide +kernel
theorem dX6_versions_11 : decode cX6_versions 11 = .ok (.getfield 115, 3) := by decide +kernel
theorem dX6_versions_14 : decode cX6_versions 14 = .ok (.iload_n 1, 1) := by decide +kernel
end
section
theorem dX6_versions_15 : decode cX6_versions 15 = .ok (.iaload, 1) := by decide +kernel
theorem dX6_versions_16 : decode cX6_versions 16 = .ok (.goto 4, 3) := by decide +kernel
theorem dX6_versions_19 : decode cX6_versions 19 = .ok (.iconst (-1), 1) := by decide +kernel
theorem dX6_versions_20 : decode cX6_versions 20 = .ok (.ireturn, 1) := by decide +kernel
theorem dX6_phase_0 : decode cX6_phase 0 = .ok (.iload_n 1, 1) := by decide +kernel
theorem dX6_phase_1 : decode cX6_phase 1 = .ok (.invokestatic 106, 3) := by decide +kernel
theorem dX6_phase_4 : decode cX6_phase 4 = .ok (.ifCond .eq 20, 3) := by decide +kernel
theorem dX6_phase_7 : decode cX6_phase 7 = .ok (.iload_n 2, 1) := by decide +kernel
theorem dX6_phase_8 : decode cX6_phase 8 = .ok (.iconst 1, 1) := by decide +kernel
theorem dX6_phase_9 : decode cX6_phase 9 = .ok (.aload_n 0, 1) := by decide +kernel
theorem dX6_phase_10 : decode cX6_phase 10 = .ok (.getfield 28, 3) := by decide +kernel
theorem dX6_phase_13 : decode cX6_phase 13 = .ok (.getfield 115, 3) := by decide +kernel
theorem dX6_phase_16 : decode cX6_phase 16 = .ok (.iload_n 1, 1) := by decide +kernel
theorem dX6_phase_17 : decode cX6_phase 17 = .ok (.iaload, 1) := by decide +kernel
theorem dX6_phase_18 : decode cX6_phase 18 = .ok (.invokestatic 39, 3) := by decide +kernel
theorem dX6_phase_21 : decode cX6_phase 21 = .ok (.ifCond .ne 5, 3) := by decide +kernel
theorem dX6_phase_24 : decode cX6_phase 24 = .ok (.iconst (-1), 1) := by decide +kernel
theorem dX6_phase_25 : decode cX6_phase 25 = .ok (.ireturn, 1) := by decide +kernel
theorem dX6_phase_26 : decode cX6_phase 26 = .ok (.iload_n 3, 1) := by decide +kernel
theorem dX6_phase_27 : decode cX6_phase 27 = .ok (.ifCond .lt 13, 3) := by decide +kernel
theorem dX6_phase_30 : decode cX6_phase 30 = .ok (.iload 4, 2) := by decide +kernel
theorem dX6_phase_32 : decode cX6_phase 32 = .ok (.iconst 0, 1) := by decide +kernel
theorem dX6_phase_33 : decode cX6_phase 33 = .ok (.iconst 4, 1) := by decide +kernel
theorem dX6_phase_34 : decode cX6_phase 34 = .ok (.invokestatic 39, 3) := by decide +kernel
theorem dX6_phase_37 : decode cX6_phase 37 = .ok (.ifCond .ne 5, 3) := by decide +kernel
theorem dX6_phase_40 : decode cX6_phase 40 = .ok (.iconst (-1), 1) := by decide +kernel
theorem dX6_phase_41 : decode cX6_phase 41 = .ok (.ireturn, 1) := by decide +kernel
theorem dX6_phase_42 : decode cX6_phase 42 = .ok (.iload_n 1, 1) := by decide +kernel
theorem dX6_phase_43 : decode cX6_phase 43 = .ok (.iload_n 2, 1) := by decide +kernel
theorem dX6_phase_44 : decode cX6_phase 44 = .ok (.invokestatic 118, 3) := by decide +kernel
theorem dX6_phase_47 : decode cX6_phase 47 = .ok (.istore 5, 2) := by decide +kernel
theorem dX6_phase_49 : decode cX6_phase 49 = .ok (.iload_n 3, 1) := by decide +kernel
theorem dX6_phase_50 : decode cX6_phase 50 = .ok (.aload_n 0, 1) := by decide +kernel
theorem dX6_phase_51 : decode cX6_phase 51 = .ok (.getfield 10, 3) := by decide +kernel
theorem dX6_phase_54 : decode cX6_phase 54 = .ok (.getfield 125, 3) := by decide +kernel
theorem dX6_phase_57 : decode cX6_phase 57 = .ok (.iload 5, 2) := by decide +kernel
theorem dX6_phase_59 : decode cX6_phase 59 = .ok (.iaload, 1) := by decide +kernel
theorem dX6_phase_60 : decode cX6_phase 60 = .ok (.if_icmp .ge 21, 3) := by decide +kernel
theorem dX6_phase_63 : decode cX6_phase 63 = .ok (.aload_n 0, 1) := by decide +kernel
theorem dX6_phase_64 : decode cX6_phase 64 = .ok (.getfield 10, 3) := by decide +kernel
theorem dX6_phase_67 : decode cX6_phase 67 = .ok (.iload 5, 2) := by decide +kernel
theorem dX6_phase_69 : decode cX6_phase 69 = .ok (.iload_n 3, 1) := by decide +kernel
theorem dX6_phase_70 : decode cX6_phase 70 = .ok (.iload 4, 2) := by decide +kernel
theorem dX6_phase_72 : decode cX6_phase 72 = .ok (.invokevirtual 128, 3) := by decide +kernel
theorem dX6_phase_75 : decode cX6_phase 75 = .ok (.invokestatic 72, 3) := by decide +kernel
theorem dX6_phase_78 : decode cX6_phase 78 = .ok (.goto 5, 3) := by decide +kernel
theorem dX6_phase_81 : decode cX6_phase 81 = .ok (.bipush (-4), 2) := by decide +kernel
theorem dX6_phase_83 : decode cX6_phase 83 = .ok (.ireturn, 1) := by decide +kernel
theorem dX6_batch_0 : decode cX6_batch 0 = .ok (.iload_n 1, 1) := by decide +kernel
theorem dX6_batch_1 : decode cX6_batch 1 = .ok (.invokestatic 106, 3) := by decide +kernel
theorem dX6_batch_4 : decode cX6_batch 4 = .ok (.ifCond .eq 21, 3) := by decide +kernel
theorem dX6_batch_7 : decode cX6_batch 7 = .ok (.iload_n 2, 1) := by decide +kernel
theorem dX6_batch_8 : decode cX6_batch 8 = .ok (.iconst 1, 1) := by decide +kernel
theorem dX6_batch_9 : decode cX6_batch 9 = .ok (.sipush 10000, 3) := by decide +kernel
theorem dX6_batch_12 : decode cX6_batch 12 = .ok (.invokestatic 39, 3) := by decide +kernel
theorem dX6_batch_15 : decode cX6_batch 15 = .ok (.ifCond .eq 10, 3) := by decide +kernel
theorem dX6_batch_18 : decode cX6_batch 18 = .ok (.iload_n 3, 1) := by decide +kernel
theorem dX6_batch_19 : decode cX6_batch 19 = .ok (.invokestatic 132, 3) := by decide +kernel
theorem dX6_batch_22 : decode cX6_batch 22 = .ok (.ifCond .ne 5, 3) := by decide +kernel
theorem dX6_batch_25 : decode cX6_batch 25 = .ok (.iconst (-1), 1) := by decide +kernel
theorem dX6_batch_26 : decode cX6_batch 26 = .ok (.ireturn, 1) := by decide +kernel
theorem dX6_batch_27 : decode cX6_batch 27 = .ok (.iload 4, 2) := by decide +kernel
theorem dX6_batch_29 : decode cX6_batch 29 = .ok (.iconst (-1), 1) := by decide +kernel
theorem dX6_batch_30 : decode cX6_batch 30 = .ok (.if_icmp .eq 14, 3) := by decide +kernel
theorem dX6_batch_33 : decode cX6_batch 33 = .ok (.aload_n 0, 1) := by decide +kernel
theorem dX6_batch_34 : decode cX6_batch 34 = .ok (.iload 4, 2) := by decide +kernel
theorem dX6_batch_36 : decode cX6_batch 36 = .ok (.invokevirtual 135, 3) := by decide +kernel
theorem dX6_batch_39 : decode cX6_batch 39 = .ok (.ifCond .ne 5, 3) := by decide +kernel
theorem dX6_batch_42 : decode cX6_batch 42 = .ok (.iconst (-1), 1) := by decide +kernel
theorem dX6_batch_43 : decode cX6_batch 43 = .ok (.ireturn, 1) := by decide +kernel
theorem dX6_batch_44 : decode cX6_batch 44 = .ok (.aload_n 0, 1) := by decide +kernel
theorem dX6_batch_45 : decode cX6_batch 45 = .ok (.getfield 28, 3) := by decide +kernel
theorem dX6_batch_48 : decode cX6_batch 48 = .ok (.getfield 115, 3) := by decide +kernel
theorem dX6_batch_51 : decode cX6_batch 51 = .ok (.iload_n 1, 1) := by decide +kernel
theorem dX6_batch_52 : decode cX6_batch 52 = .ok (.iaload, 1) := by decide +kernel
theorem dX6_batch_53 : decode cX6_batch 53 = .ok (.ifCond .eq 15, 3) := by decide +kernel
theorem dX6_batch_56 : decode cX6_batch 56 = .ok (.aload_n 0, 1) := by decide +kernel
theorem dX6_batch_57 : decode cX6_batch 57 = .ok (.getfield 28, 3) := by decide +kernel
theorem dX6_batch_60 : decode cX6_batch 60 = .ok (.iload 4, 2) := by decide +kernel
theorem dX6_batch_62 : decode cX6_batch 62 = .ok (.invokevirtual 138, 3) := by decide +kernel
theorem dX6_batch_65 : decode cX6_batch 65 = .ok (.ifCond .eq 6, 3) := by decide +kernel
theorem dX6_batch_68 : decode cX6_batch 68 = .ok (.bipush (-2), 2) := by decide +kernel
theorem dX6_batch_70 : decode cX6_batch 70 = .ok (.ireturn, 1) := by decide +kernel
theorem dX6_batch_71 : decode cX6_batch 71 = .ok (.aload_n 0, 1) := by decide +kernel
theorem dX6_batch_72 : decode cX6_batch 72 = .ok (.getfield 28, 3) := by decide +kernel
theorem dX6_batch_75 : decode cX6_batch 75 = .ok (.getfield 141, 3) := by decide +kernel
theorem dX6_batch_78 : decode cX6_batch 78 = .ok (.bipush 12, 2) := by decide +kernel
theorem dX6_batch_80 : decode cX6_batch 80 = .ok (.if_icmp .lt 6, 3) := by decide +kernel
theorem dX6_batch_83 : decode cX6_batch 83 = .ok (.bipush (-3), 2) := by decide +kernel
theorem dX6_batch_85 : decode cX6_batch 85 = .ok (.ireturn, 1) := by decide +kernel
theorem dX6_batch_86 : decode cX6_batch 86 = .ok (.aload_n 0, 1) := by decide +kernel
theorem dX6_batch_87 : decode cX6_batch 87 = .ok (.invokevirtual 47, 3) := by decide +kernel
theorem dX6_batch_90 : decode cX6_batch 90 = .ok (.aload_n 0, 1) := by decide +kernel
theorem dX6_batch_91 : decode cX6_batch 91 = .ok (.getfield 28, 3) := by decide +kernel
theorem dX6_batch_94 : decode cX6_batch 94 = .ok (.iload_n 1, 1) := by decide +kernel
theorem dX6_batch_95 : decode cX6_batch 95 = .ok (.iload_n 2, 1) := by decide +kernel
theorem dX6_batch_96 : decode cX6_batch 96 = .ok (.iload_n 3, 1) := by decide +kernel
theorem dX6_batch_97 : decode cX6_batch 97 = .ok (.iload 4, 2) := by decide +kernel
theorem dX6_batch_99 : decode cX6_batch 99 = .ok (.invokevirtual 144, 3) := by decide +kernel
theorem dX6_batch_102 : decode cX6_batch 102 = .ok (.ireturn, 1) := by decide +kernel
theorem dX6_start_0 : decode cX6_start 0 = .ok (.aload_n 0, 1) := by decide +kernel
theorem dX6_start_1 : decode cX6_start 1 = .ok (.iload_n 1, 1) := by decide +kernel
theorem dX6_start_2 : decode cX6_start 2 = .ok (.invokevirtual 135, 3) := by decide +kernel
theorem dX6_start_5 : decode cX6_start 5 = .ok (.ifCond .ne 5, 3) := by decide +kernel
theorem dX6_start_8 : decode cX6_start 8 = .ok (.iconst (-1), 1) := by decide +kernel
theorem dX6_start_9 : decode cX6_start 9 = .ok (.ireturn, 1) := by decide +kernel
theorem dX6_start_10 : decode cX6_start 10 = .ok (.aload_n 0, 1) := by decide +kernel
theorem dX6_start_11 : decode cX6_start 11 = .ok (.getfield 28, 3) := by decide +kernel
theorem dX6_start_14 : decode cX6_start 14 = .ok (.getfield 148, 3) := by decide +kernel
theorem dX6_start_17 : decode cX6_start 17 = .ok (.iload_n 1, 1) := by decide +kernel
theorem dX6_start_18 : decode cX6_start 18 = .ok (.aaload, 1) := by decide +kernel
theorem dX6_start_19 : decode cX6_start 19 = .ok (.getfield 152, 3) := by decide +kernel
theorem dX6_start_22 : decode cX6_start 22 = .ok (.ifCond .eq 6, 3) := by decide +kernel
theorem dX6_start_25 : decode cX6_start 25 = .ok (.bipush (-2), 2) := by decide +kernel
theorem dX6_start_27 : decode cX6_start 27 = .ok (.ireturn, 1) := by decide +kernel
theorem dX6_start_28 : decode cX6_start 28 = .ok (.aload_n 0, 1) := by decide +kernel
theorem dX6_start_29 : decode cX6_start 29 = .ok (.invokevirtual 47, 3) := by decide +kernel
theorem dX6_start_32 : decode cX6_start 32 = .ok (.aload_n 0, 1) := by decide +kernel
theorem dX6_start_33 : decode cX6_start 33 = .ok (.getfield 28, 3) := by decide +kernel
theorem dX6_start_36 : decode cX6_start 36 = .ok (.getfield 148, 3) := by decide +kernel
theorem dX6_start_39 : decode cX6_start 39 = .ok (.iload_n 1, 1) := by decide +kernel
theorem dX6_start_40 : decode cX6_start 40 = .ok (.aaload, 1) := by decide +kernel
theorem dX6_start_41 : decode cX6_start 41 = .ok (.iconst 1, 1) := by decide +kernel
theorem dX6_start_42 : decode cX6_start 42 = .ok (.putfield 152, 3) := by decide +kernel
theorem dX6_start_45 : decode cX6_start 45 = .ok (.aload_n 0, 1) := by decide +kernel
theorem dX6_start_46 : decode cX6_start 46 = .ok (.getfield 28, 3) := by decide +kernel
theorem dX6_start_49 : decode cX6_start 49 = .ok (.iconst 1, 1) := by decide +kernel
theorem dX6_start_50 : decode cX6_start 50 = .ok (.invokevirtual 157, 3) := by decide +kernel
theorem dX6_start_53 : decode cX6_start 53 = .ok (.ireturn, 1) := by decide +kernel
theorem dX6_hold_0 : decode cX6_hold 0 = .ok (.aload_n 0, 1) := by decide +kernel
theorem dX6_hold_1 : decode cX6_hold 1 = .ok (.iload_n 1, 1) := by decide +kernel
theorem dX6_hold_2 : decode cX6_hold 2 = .ok (.invokevirtual 135, 3) := by decide +kernel
theorem dX6_hold_5 : decode cX6_hold 5 = .ok (.ifCond .ne 5, 3) := by decide +kernel
theorem dX6_hold_8 : decode cX6_hold 8 = .ok (.iconst (-1), 1) := by decide +kernel
theorem dX6_hold_9 : decode cX6_hold 9 = .ok (.ireturn, 1) := by decide +kernel
theorem dX6_hold_10 : decode cX6_hold 10 = .ok (.aload_n 0, 1) := by decide +kernel
theorem dX6_hold_11 : decode cX6_hold 11 = .ok (.getfield 28, 3) := by decide +kernel
theorem dX6_hold_14 : decode cX6_hold 14 = .ok (.getfield 148, 3) := by decide +kernel
theorem dX6_hold_17 : decode cX6_hold 17 = .ok (.iload_n 1, 1) := by decide +kernel
theorem dX6_hold_18 : decode cX6_hold 18 = .ok (.aaload, 1) := by decide +kernel
theorem dX6_hold_19 : decode cX6_hold 19 = .ok (.invokevirtual 160, 3) := by decide +kernel
theorem dX6_hold_22 : decode cX6_hold 22 = .ok (.ifCond .ne 6, 3) := by decide +kernel
theorem dX6_hold_25 : decode cX6_hold 25 = .ok (.bipush (-2), 2) := by decide +kernel
theorem dX6_hold_27 : decode cX6_hold 27 = .ok (.ireturn, 1) := by decide +kernel
theorem dX6_hold_28 : decode cX6_hold 28 = .ok (.aload_n 0, 1) := by decide +kernel
theorem dX6_hold_29 : decode cX6_hold 29 = .ok (.invokevirtual 47, 3) := by decide +kernel
theorem dX6_hold_32 : decode cX6_hold 32 = .ok (.aload_n 0, 1) := by decide +kernel
theorem dX6_hold_33 : decode cX6_hold 33 = .ok (.getfield 28, 3) := by decide +kernel
theorem dX6_hold_36 : decode cX6_hold 36 = .ok (.iload_n 1, 1) := by decide +kernel
theorem dX6_hold_37 : decode cX6_hold 37 = .ok (.invokevirtual 164, 3) := by decide +kernel
theorem dX6_hold_40 : decode cX6_hold 40 = .ok (.aload_n 0, 1) := by decide +kernel
theorem dX6_hold_41 : decode cX6_hold 41 = .ok (.getfield 28, 3) := by decide +kernel
theorem dX6_hold_44 : decode cX6_hold 44 = .ok (.iconst 2, 1) := by decide +kernel
theorem dX6_hold_45 : decode cX6_hold 45 = .ok (.invokevirtual 157, 3) := by decide +kernel
theorem dX6_hold_48 : decode cX6_hold 48 = .ok (.ireturn, 1) := by decide +kernel
theorem dX6_restart_0 : decode cX6_restart 0 = .ok (.aload_n 0, 1) := by decide +kernel
theorem dX6_restart_1 : decode cX6_restart 1 = .ok (.iload_n 1, 1) := by decide +kernel
theorem dX6_restart_2 : decode cX6_restart 2 = .ok (.invokevirtual 135, 3) := by decide +kernel
theorem dX6_restart_5 : decode cX6_restart 5 = .ok (.ifCond .ne 5, 3) := by decide +kernel
theorem dX6_restart_8 : decode cX6_restart 8 = .ok (.iconst (-1), 1) := by decide +kernel
theorem dX6_restart_9 : decode cX6_restart 9 = .ok (.ireturn, 1) := by decide +kernel
theorem dX6_restart_10 : decode cX6_restart 10 = .ok (.aload_n 0, 1) := by decide +kernel
theorem dX6_restart_11 : decode cX6_restart 11 = .ok (.getfield 28, 3) := by decide +kernel
theorem dX6_restart_14 : decode cX6_restart 14 = .ok (.getfield 148, 3) := by decide +kernel
theorem dX6_restart_17 : decode cX6_restart 17 = .ok (.iload_n 1, 1) := by decide +kernel
theorem dX6_restart_18 : decode cX6_restart 18 = .ok (.aaload, 1) := by decide +kernel
theorem dX6_restart_19 : decode cX6_restart 19 = .ok (.getfield 152, 3) := by decide +kernel
theorem dX6_restart_22 : decode cX6_restart 22 = .ok (.iconst 2, 1) := by decide +kernel
theorem dX6_restart_23 : decode cX6_restart 23 = .ok (.if_icmp .ne 14, 3) := by decide +kernel
theorem dX6_restart_26 : decode cX6_restart 26 = .ok (.aload_n 0, 1) := by decide +kernel
theorem dX6_restart_27 : decode cX6_restart 27 = .ok (.getfield 28, 3) := by decide +kernel
theorem dX6_restart_30 : decode cX6_restart 30 = .ok (.iload_n 1, 1) := by decide +kernel
theorem dX6_restart_31 : decode cX6_restart 31 = .ok (.invokevirtual 168, 3) := by decide +kernel
theorem dX6_restart_34 : decode cX6_restart 34 = .ok (.ifCond .eq 6, 3) := by decide +kernel
theorem dX6_restart_37 : decode cX6_restart 37 = .ok (.bipush (-2), 2) := by decide +kernel
theorem dX6_restart_39 : decode cX6_restart 39 = .ok (.ireturn, 1) := by decide +kernel
theorem dX6_restart_40 : decode cX6_restart 40 = .ok (.aload_n 0, 1) := by decide +kernel
theorem dX6_restart_41 : decode cX6_restart 41 = .ok (.invokevirtual 47, 3) := by decide +kernel
theorem dX6_restart_44 : decode cX6_restart 44 = .ok (.aload_n 0, 1) := by decide +kernel
theorem dX6_restart_45 : decode cX6_restart 45 = .ok (.getfield 28, 3) := by decide +kernel
theorem dX6_restart_48 : decode cX6_restart 48 = .ok (.iload_n 1, 1) := by decide +kernel
theorem dX6_restart_49 : decode cX6_restart 49 = .ok (.invokevirtual 171, 3) := by decide +kernel
theorem dX6_restart_52 : decode cX6_restart 52 = .ok (.aload_n 0, 1) := by decide +kernel
theorem dX6_restart_53 : decode cX6_restart 53 = .ok (.getfield 28, 3) := by decide +kernel
theorem dX6_restart_56 : decode cX6_restart 56 = .ok (.iload_n 1, 1) := by decide +kernel
theorem dX6_restart_57 : decode cX6_restart 57 = .ok (.invokevirtual 174, 3) := by decide +kernel
theorem dX6_restart_60 : decode cX6_restart 60 = .ok (.ireturn, 1) := by decide +kernel
theorem dX6_stop_0 : decode cX6_stop 0 = .ok (.aload_n 0, 1) := by decide +kernel
theorem dX6_stop_1 : decode cX6_stop 1 = .ok (.iload_n 1, 1) := by decide +kernel
theorem dX6_stop_2 : decode cX6_stop 2 = .ok (.invokevirtual 135, 3) := by decide +kernel
theorem dX6_stop_5 : decode cX6_stop 5 = .ok (.ifCond .ne 5, 3) := by decide +kernel
theorem dX6_stop_8 : decode cX6_stop 8 = .ok (.iconst (-1), 1) := by decide +kernel
theorem dX6_stop_9 : decode cX6_stop 9 = .ok (.ireturn, 1) := by decide +kernel
theorem dX6_stop_10 : decode cX6_stop 10 = .ok (.aload_n 0, 1) := by decide +kernel
theorem dX6_stop_11 : decode cX6_stop 11 = .ok (.getfield 28, 3) := by decide +kernel
theorem dX6_stop_14 : decode cX6_stop 14 = .ok (.getfield 148, 3) := by decide +kernel
theorem dX6_stop_17 : decode cX6_stop 17 = .ok (.iload_n 1, 1) := by decide +kernel
theorem dX6_stop_18 : decode cX6_stop 18 = .ok (.aaload, 1) := by decide +kernel
theorem dX6_stop_19 : decode cX6_stop 19 = .ok (.getfield 152, 3) := by decide +kernel
theorem dX6_stop_22 : decode cX6_stop 22 = .ok (.istore_n 2, 1) := by decide +kernel
theorem dX6_stop_23 : decode cX6_stop 23 = .ok (.iload_n 2, 1) := by decide +kernel
theorem dX6_stop_24 : decode cX6_stop 24 = .ok (.iconst 1, 1) := by decide +kernel
theorem dX6_stop_25 : decode cX6_stop 25 = .ok (.if_icmp .eq 11, 3) := by decide +kernel
theorem dX6_stop_28 : decode cX6_stop 28 = .ok (.iload_n 2, 1) := by decide +kernel
theorem dX6_stop_29 : decode cX6_stop 29 = .ok (.iconst 2, 1) := by decide +kernel
theorem dX6_stop_30 : decode cX6_stop 30 = .ok (.if_icmp .eq 6, 3) := by decide +kernel
theorem dX6_stop_33 : decode cX6_stop 33 = .ok (.bipush (-2), 2) := by decide +kernel
theorem dX6_stop_35 : decode cX6_stop 35 = .ok (.ireturn, 1) := by decide +kernel
theorem dX6_stop_36 : decode cX6_stop 36 = .ok (.aload_n 0, 1) := by decide +kernel
theorem dX6_stop_37 : decode cX6_stop 37 = .ok (.invokevirtual 47, 3) := by decide +kernel
theorem dX6_stop_40 : decode cX6_stop 40 = .ok (.aload_n 0, 1) := by decide +kernel
theorem dX6_stop_41 : decode cX6_stop 41 = .ok (.getfield 28, 3) := by decide +kernel
theorem dX6_stop_44 : decode cX6_stop 44 = .ok (.iload_n 1, 1) := by decide +kernel
theorem dX6_stop_45 : decode cX6_stop 45 = .ok (.invokevirtual 177, 3) := by decide +kernel
theorem dX6_stop_48 : decode cX6_stop 48 = .ok (.aload_n 0, 1) := by decide +kernel
theorem dX6_stop_49 : decode cX6_stop 49 = .ok (.getfield 28, 3) := by decide +kernel
theorem dX6_stop_52 : decode cX6_stop 52 = .ok (.getfield 148, 3) := by decide +kernel
theorem dX6_stop_55 : decode cX6_stop 55 = .ok (.iload_n 1, 1) := by decide +kernel
theorem dX6_stop_56 : decode cX6_stop 56 = .ok (.aaload, 1) := by decide +kernel
theorem dX6_stop_57 : decode cX6_stop 57 = .ok (.getfield 152, 3) := by decide +kernel
theorem dX6_stop_60 : decode cX6_stop 60 = .ok (.ireturn, 1) := by decide +kernel
theorem dX6_abort_0 : decode cX6_abort 0 = .ok (.aload_n 0, 1) := by decide +kernel
theorem dX6_abort_1 : decode cX6_abort 1 = .ok (.iload_n 1, 1) := by decide +kernel
theorem dX6_abort_2 : decode cX6_abort 2 = .ok (.invokevirtual 135, 3) := by decide +kernel
theorem dX6_abort_5 : decode cX6_abort 5 = .ok (.ifCond .ne 5, 3) := by decide +kernel
theorem dX6_abort_8 : decode cX6_abort 8 = .ok (.iconst (-1), 1) := by decide +kernel
theorem dX6_abort_9 : decode cX6_abort 9 = .ok (.ireturn, 1) := by decide +kernel
theorem dX6_abort_10 : decode cX6_abort 10 = .ok (.aload_n 0, 1) := by decide +kernel
theorem dX6_abort_11 : decode cX6_abort 11 = .ok (.getfield 28, 3) := by decide +kernel
theorem dX6_abort_14 : decode cX6_abort 14 = .ok (.getfield 148, 3) := by decide +kernel
theorem dX6_abort_17 : decode cX6_abort 17 = .ok (.iload_n 1, 1) := by decide +kernel
theorem dX6_abort_18 : decode cX6_abort 18 = .ok (.aaload, 1) := by decide +kernel
theorem dX6_abort_19 : decode cX6_abort 19 = .ok (.invokevirtual 180, 3) := by decide +kernel
theorem dX6_abort_22 : decode cX6_abort 22 = .ok (.ifCond .eq 6, 3) := by decide +kernel
theorem dX6_abort_25 : decode cX6_abort 25 = .ok (.bipush (-2), 2) := by decide +kernel
theorem dX6_abort_27 : decode cX6_abort 27 = .ok (.ireturn, 1) := by decide +kernel
theorem dX6_abort_28 : decode cX6_abort 28 = .ok (.aload_n 0, 1) := by decide +kernel
theorem dX6_abort_29 : decode cX6_abort 29 = .ok (.invokevirtual 47, 3) := by decide +kernel
theorem dX6_abort_32 : decode cX6_abort 32 = .ok (.aload_n 0, 1) := by decide +kernel
theorem dX6_abort_33 : decode cX6_abort 33 = .ok (.getfield 28, 3) := by decide +kernel
theorem dX6_abort_36 : decode cX6_abort 36 = .ok (.iload_n 1, 1) := by decide +kernel
theorem dX6_abort_37 : decode cX6_abort 37 = .ok (.invokevirtual 183, 3) := by decide +kernel
theorem dX6_abort_40 : decode cX6_abort 40 = .ok (.ireturn, 1) := by decide +kernel
theorem dX6_priority_0 : decode cX6_priority 0 = .ok (.aload_n 0, 1) := by decide +kernel
theorem dX6_priority_1 : decode cX6_priority 1 = .ok (.iload_n 1, 1) := by decide +kernel
theorem dX6_priority_2 : decode cX6_priority 2 = .ok (.invokevirtual 135, 3) := by decide +kernel
theorem dX6_priority_5 : decode cX6_priority 5 = .ok (.ifCond .eq 10, 3) := by decide +kernel
theorem dX6_priority_8 : decode cX6_priority 8 = .ok (.iload_n 2, 1) := by decide +kernel
theorem dX6_priority_9 : decode cX6_priority 9 = .ok (.invokestatic 132, 3) := by decide +kernel
theorem dX6_priority_12 : decode cX6_priority 12 = .ok (.ifCond .ne 5, 3) := by decide +kernel
theorem dX6_priority_15 : decode cX6_priority 15 = .ok (.iconst (-1), 1) := by decide +kernel
theorem dX6_priority_16 : decode cX6_priority 16 = .ok (.ireturn, 1) := by decide +kernel
theorem dX6_priority_17 : decode cX6_priority 17 = .ok (.aload_n 0, 1) := by decide +kernel
theorem dX6_priority_18 : decode cX6_priority 18 = .ok (.invokevirtual 47, 3) := by decide +kernel
theorem dX6_priority_21 : decode cX6_priority 21 = .ok (.aload_n 0, 1) := by decide +kernel
theorem dX6_priority_22 : decode cX6_priority 22 = .ok (.getfield 28, 3) := by decide +kernel
theorem dX6_priority_25 : decode cX6_priority 25 = .ok (.getfield 148, 3) := by decide +kernel
theorem dX6_priority_28 : decode cX6_priority 28 = .ok (.iload_n 1, 1) := by decide +kernel
theorem dX6_priority_29 : decode cX6_priority 29 = .ok (.aaload, 1) := by decide +kernel
theorem dX6_priority_30 : decode cX6_priority 30 = .ok (.getfield 186, 3) := by decide +kernel
theorem dX6_priority_33 : decode cX6_priority 33 = .ok (.istore_n 3, 1) := by decide +kernel
theorem dX6_priority_34 : decode cX6_priority 34 = .ok (.aload_n 0, 1) := by decide +kernel
theorem dX6_priority_35 : decode cX6_priority 35 = .ok (.getfield 28, 3) := by decide +kernel
theorem dX6_priority_38 : decode cX6_priority 38 = .ok (.getfield 148, 3) := by decide +kernel
theorem dX6_priority_41 : decode cX6_priority 41 = .ok (.iload_n 1, 1) := by decide +kernel
theorem dX6_priority_42 : decode cX6_priority 42 = .ok (.aaload, 1) := by decide +kernel
theorem dX6_priority_43 : decode cX6_priority 43 = .ok (.iload_n 2, 1) := by decide +kernel
theorem dX6_priority_44 : decode cX6_priority 44 = .ok (.putfield 186, 3) := by decide +kernel
theorem dX6_priority_47 : decode cX6_priority 47 = .ok (.iload_n 3, 1) := by decide +kernel
theorem dX6_priority_48 : decode cX6_priority 48 = .ok (.ireturn, 1) := by decide +kernel
theorem dX6_batchInfo_0 : decode cX6_batchInfo 0 = .ok (.aload_n 0, 1) := by decide +kernel
theorem dX6_batchInfo_1 : decode cX6_batchInfo 1 = .ok (.iload_n 1, 1) := by decide +kernel
theorem dX6_batchInfo_2 : decode cX6_batchInfo 2 = .ok (.invokevirtual 135, 3) := by decide +kernel
theorem dX6_batchInfo_5 : decode cX6_batchInfo 5 = .ok (.ifCond .ne 5, 3) := by decide +kernel
theorem dX6_batchInfo_8 : decode cX6_batchInfo 8 = .ok (.iconst (-1), 1) := by decide +kernel
theorem dX6_batchInfo_9 : decode cX6_batchInfo 9 = .ok (.ireturn, 1) := by decide +kernel
theorem dX6_batchInfo_10 : decode cX6_batchInfo 10 = .ok (.aload_n 0, 1) := by decide +kernel
theorem dX6_batchInfo_11 : decode cX6_batchInfo 11 = .ok (.getfield 28, 3) := by decide +kernel
theorem dX6_batchInfo_14 : decode cX6_batchInfo 14 = .ok (.getfield 148, 3) := by decide +kernel
theorem dX6_batchInfo_17 : decode cX6_batchInfo 17 = .ok (.iload_n 1, 1) := by decide +kernel
theorem dX6_batchInfo_18 : decode cX6_batchInfo 18 = .ok (.aaload, 1) := by decide +kernel
theorem dX6_batchInfo_19 : decode cX6_batchInfo 19 = .ok (.astore_n 3, 1) := by decide +kernel
theorem dX6_batchInfo_20 : decode cX6_batchInfo 20 = .ok (.iload_n 2, 1) := by decide +kernel
theorem dX6_batchInfo_21 : decode cX6_batchInfo 21 = .ok (.tableswitch 168 0 11 #[63, 68, 73, 78, 83, 91, 96, 115, 138, 146, 154, 162], 63) := by decide +kernel
theorem dX6_batchInfo_84 : decode cX6_batchInfo 84 = .ok (.aload_n 3, 1) := by decide +kernel
theorem dX6_batchInfo_85 : decode cX6_batchInfo 85 = .ok (.getfield 189, 3) := by decide +kernel
theorem dX6_batchInfo_88 : decode cX6_batchInfo 88 = .ok (.ireturn, 1) := by decide +kernel
theorem dX6_batchInfo_89 : decode cX6_batchInfo 89 = .ok (.aload_n 3, 1) := by decide +kernel
theorem dX6_batchInfo_90 : decode cX6_batchInfo 90 = .ok (.getfield 192, 3) := by decide +kernel
theorem dX6_batchInfo_93 : decode cX6_batchInfo 93 = .ok (.ireturn, 1) := by decide +kernel
theorem dX6_batchInfo_94 : decode cX6_batchInfo 94 = .ok (.aload_n 3, 1) := by decide +kernel
theorem dX6_batchInfo_95 : decode cX6_batchInfo 95 = .ok (.getfield 195, 3) := by decide +kernel
theorem dX6_batchInfo_98 : decode cX6_batchInfo 98 = .ok (.ireturn, 1) := by decide +kernel
theorem dX6_batchInfo_99 : decode cX6_batchInfo 99 = .ok (.aload_n 3, 1) := by decide +kernel
theorem dX6_batchInfo_100 : decode cX6_batchInfo 100 = .ok (.getfield 186, 3) := by decide +kernel
theorem dX6_batchInfo_103 : decode cX6_batchInfo 103 = .ok (.ireturn, 1) := by decide +kernel
theorem dX6_batchInfo_104 : decode cX6_batchInfo 104 = .ok (.aload_n 3, 1) := by decide +kernel
theorem dX6_batchInfo_105 : decode cX6_batchInfo 105 = .ok (.getfield 198, 3) := by decide +kernel
theorem dX6_batchInfo_108 : decode cX6_batchInfo 108 = .ok (.invokestatic 72, 3) := by decide +kernel
theorem dX6_batchInfo_111 : decode cX6_batchInfo 111 = .ok (.ireturn, 1) := by decide +kernel
theorem dX6_batchInfo_112 : decode cX6_batchInfo 112 = .ok (.aload_n 3, 1) := by decide +kernel
theorem dX6_batchInfo_113 : decode cX6_batchInfo 113 = .ok (.getfield 152, 3) := by decide +kernel
theorem dX6_batchInfo_116 : decode cX6_batchInfo 116 = .ok (.ireturn, 1) := by decide +kernel
theorem dX6_batchInfo_117 : decode cX6_batchInfo 117 = .ok (.aload_n 3, 1) := by decide +kernel
theorem dX6_batchInfo_118 : decode cX6_batchInfo 118 = .ok (.getfield 152, 3) := by decide +kernel
theorem dX6_batchInfo_121 : decode cX6_batchInfo 121 = .ok (.bipush 6, 2) := by decide +kernel
theorem dX6_batchInfo_123 : decode cX6_batchInfo 123 = .ok (.if_icmp .ne 8, 3) := by decide +kernel
theorem dX6_batchInfo_126 : decode cX6_batchInfo 126 = .ok (.bipush (-4), 2) := by decide +kernel
theorem dX6_batchInfo_128 : decode cX6_batchInfo 128 = .ok (.goto 7, 3) := by decide +kernel
theorem dX6_batchInfo_131 : decode cX6_batchInfo 131 = .ok (.aload_n 3, 1) := by decide +kernel
theorem dX6_batchInfo_132 : decode cX6_batchInfo 132 = .ok (.getfield 201, 3) := by decide +kernel
theorem dX6_batchInfo_135 : decode cX6_batchInfo 135 = .ok (.ireturn, 1) := by decide +kernel
theorem dX6_batchInfo_136 : decode cX6_batchInfo 136 = .ok (.aload_n 3, 1) := by decide +kernel
theorem dX6_batchInfo_137 : decode cX6_batchInfo 137 = .ok (.getfield 152, 3) := by decide +kernel
theorem dX6_batchInfo_140 : decode cX6_batchInfo 140 = .ok (.bipush 6, 2) := by decide +kernel
theorem dX6_batchInfo_142 : decode cX6_batchInfo 142 = .ok (.if_icmp .ne 8, 3) := by decide +kernel
theorem dX6_batchInfo_145 : decode cX6_batchInfo 145 = .ok (.bipush (-4), 2) := by decide +kernel
theorem dX6_batchInfo_147 : decode cX6_batchInfo 147 = .ok (.goto 11, 3) := by decide +kernel
theorem dX6_batchInfo_150 : decode cX6_batchInfo 150 = .ok (.aload_n 0, 1) := by decide +kernel
theorem dX6_batchInfo_151 : decode cX6_batchInfo 151 = .ok (.getfield 28, 3) := by decide +kernel
theorem dX6_batchInfo_154 : decode cX6_batchInfo 154 = .ok (.iload_n 1, 1) := by decide +kernel
theorem dX6_batchInfo_155 : decode cX6_batchInfo 155 = .ok (.invokevirtual 174, 3) := by decide +kernel
theorem dX6_batchInfo_158 : decode cX6_batchInfo 158 = .ok (.ireturn, 1) := by decide +kernel
theorem dX6_batchInfo_159 : decode cX6_batchInfo 159 = .ok (.aload_n 3, 1) := by decide +kernel
theorem dX6_batchInfo_160 : decode cX6_batchInfo 160 = .ok (.getfield 204, 3) := by decide +kernel
theorem dX6_batchInfo_163 : decode cX6_batchInfo 163 = .ok (.invokestatic 72, 3) := by decide +kernel
theorem dX6_batchInfo_166 : decode cX6_batchInfo 166 = .ok (.ireturn, 1) := by decide +kernel
theorem dX6_batchInfo_167 : decode cX6_batchInfo 167 = .ok (.aload_n 3, 1) := by decide +kernel
theorem dX6_batchInfo_168 : decode cX6_batchInfo 168 = .ok (.invokevirtual 207, 3) := by decide +kernel
theorem dX6_batchInfo_171 : decode cX6_batchInfo 171 = .ok (.invokestatic 88, 3) := by decide +kernel
theorem dX6_batchInfo_174 : decode cX6_batchInfo 174 = .ok (.ireturn, 1) := by decide +kernel
theorem dX6_batchInfo_175 : decode cX6_batchInfo 175 = .ok (.aload_n 3, 1) := by decide +kernel
theorem dX6_batchInfo_176 : decode cX6_batchInfo 176 = .ok (.getfield 210, 3) := by decide +kernel
theorem dX6_batchInfo_179 : decode cX6_batchInfo 179 = .ok (.invokestatic 214, 3) := by decide +kernel
theorem dX6_batchInfo_182 : decode cX6_batchInfo 182 = .ok (.ireturn, 1) := by decide +kernel
theorem dX6_batchInfo_183 : decode cX6_batchInfo 183 = .ok (.aload_n 3, 1) := by decide +kernel
theorem dX6_batchInfo_184 : decode cX6_batchInfo 184 = .ok (.getfield 210, 3) := by decide +kernel
theorem dX6_batchInfo_187 : decode cX6_batchInfo 187 = .ok (.f2i, 1) := by decide +kernel
theorem dX6_batchInfo_188 : decode cX6_batchInfo 188 = .ok (.ireturn, 1) := by decide +kernel
theorem dX6_batchInfo_189 : decode cX6_batchInfo 189 = .ok (.iconst (-1), 1) := by decide +kernel
theorem dX6_batchInfo_190 : decode cX6_batchInfo 190 = .ok (.ireturn, 1) := by decide +kernel
theorem dX6_waits_0 : decode cX6_waits 0 = .ok (.aload_n 0, 1) := by decide +kernel
theorem dX6_waits_1 : decode cX6_waits 1 = .ok (.iload_n 1, 1) := by decide +kernel
theorem dX6_waits_2 : decode cX6_waits 2 = .ok (.invokevirtual 135, 3) := by decide +kernel
theorem dX6_waits_5 : decode cX6_waits 5 = .ok (.ifCond .ne 5, 3) := by decide +kernel
theorem dX6_waits_8 : decode cX6_waits 8 = .ok (.iconst (-1), 1) := by decide +kernel
theorem dX6_waits_9 : decode cX6_waits 9 = .ok (.ireturn, 1) := by decide +kernel
theorem dX6_waits_10 : decode cX6_waits 10 = .ok (.aload_n 0, 1) := by decide +kernel
theorem dX6_waits_11 : decode cX6_waits 11 = .ok (.getfield 28, 3) := by decide +kernel
theorem dX6_waits_14 : decode cX6_waits 14 = .ok (.getfield 148, 3) := by decide +kernel
theorem dX6_waits_17 : decode cX6_waits 17 = .ok (.iload_n 1, 1) := by decide +kernel
theorem dX6_waits_18 : decode cX6_waits 18 = .ok (.aaload, 1) := by decide +kernel
theorem dX6_waits_19 : decode cX6_waits 19 = .ok (.invokevirtual 160, 3) := by decide +kernel
theorem dX6_waits_22 : decode cX6_waits 22 = .ok (.ifCond .ne 6, 3) := by decide +kernel
theorem dX6_waits_25 : decode cX6_waits 25 = .ok (.bipush (-4), 2) := by decide +kernel
theorem dX6_waits_27 : decode cX6_waits 27 = .ok (.ireturn, 1) := by decide +kernel
theorem dX6_waits_28 : decode cX6_waits 28 = .ok (.aload_n 0, 1) := by decide +kernel
theorem dX6_waits_29 : decode cX6_waits 29 = .ok (.getfield 28, 3) := by decide +kernel
theorem dX6_waits_32 : decode cX6_waits 32 = .ok (.iload_n 1, 1) := by decide +kernel
theorem dX6_waits_33 : decode cX6_waits 33 = .ok (.iconst 1, 1) := by decide +kernel
theorem dX6_waits_34 : decode cX6_waits 34 = .ok (.invokevirtual 218, 3) := by decide +kernel
theorem dX6_waits_37 : decode cX6_waits 37 = .ok (.ireturn, 1) := by decide +kernel
theorem dX6_inOrder_0 : decode cX6_inOrder 0 = .ok (.iload_n 1, 1) := by decide +kernel
theorem dX6_inOrder_1 : decode cX6_inOrder 1 = .ok (.ifCond .ge 5, 3) := by decide +kernel
theorem dX6_inOrder_4 : decode cX6_inOrder 4 = .ok (.iconst (-1), 1) := by decide +kernel
theorem dX6_inOrder_5 : decode cX6_inOrder 5 = .ok (.ireturn, 1) := by decide +kernel
theorem dX6_inOrder_6 : decode cX6_inOrder 6 = .ok (.aload_n 0, 1) := by decide +kernel
theorem dX6_inOrder_7 : decode cX6_inOrder 7 = .ok (.getfield 28, 3) := by decide +kernel
theorem dX6_inOrder_10 : decode cX6_inOrder 10 = .ok (.invokevirtual 221, 3) := by decide +kernel
theorem dX6_inOrder_13 : decode cX6_inOrder 13 = .ok (.iload_n 1, 1) := by decide +kernel
theorem dX6_inOrder_14 : decode cX6_inOrder 14 = .ok (.aload_n 0, 1) := by decide +kernel
theorem dX6_inOrder_15 : decode cX6_inOrder 15 = .ok (.getfield 28, 3) := by decide +kernel
theorem dX6_inOrder_18 : decode cX6_inOrder 18 = .ok (.getfield 224, 3) := by decide +kernel
theorem dX6_inOrder_21 : decode cX6_inOrder 21 = .ok (.if_icmp .ge 15, 3) := by decide +kernel
theorem dX6_inOrder_24 : decode cX6_inOrder 24 = .ok (.aload_n 0, 1) := by decide +kernel
theorem dX6_inOrder_25 : decode cX6_inOrder 25 = .ok (.getfield 28, 3) := by decide +kernel
theorem dX6_inOrder_28 : decode cX6_inOrder 28 = .ok (.getfield 227, 3) := by decide +kernel
theorem dX6_inOrder_31 : decode cX6_inOrder 31 = .ok (.iload_n 1, 1) := by decide +kernel
theorem dX6_inOrder_32 : decode cX6_inOrder 32 = .ok (.iaload, 1) := by decide +kernel
theorem dX6_inOrder_33 : decode cX6_inOrder 33 = .ok (.goto 5, 3) := by decide +kernel
theorem dX6_inOrder_36 : decode cX6_inOrder 36 = .ok (.bipush (-4), 2) := by decide +kernel
theorem dX6_inOrder_38 : decode cX6_inOrder 38 = .ok (.ireturn, 1) := by decide +kernel
theorem dX6_run_0 : decode cX6_run 0 = .ok (.iload_n 1, 1) := by decide +kernel
theorem dX6_run_1 : decode cX6_run 1 = .ok (.iconst 1, 1) := by decide +kernel
theorem dX6_run_2 : decode cX6_run 2 = .ok (.sipush 500, 3) := by decide +kernel
theorem dX6_run_5 : decode cX6_run 5 = .ok (.invokestatic 39, 3) := by decide +kernel
theorem dX6_run_8 : decode cX6_run 8 = .ok (.ifCond .ne 5, 3) := by decide +kernel
theorem dX6_run_11 : decode cX6_run 11 = .ok (.iconst (-1), 1) := by decide +kernel
theorem dX6_run_12 : decode cX6_run 12 = .ok (.ireturn, 1) := by decide +kernel
theorem dX6_run_13 : decode cX6_run 13 = .ok (.aload_n 0, 1) := by decide +kernel
theorem dX6_run_14 : decode cX6_run 14 = .ok (.getfield 28, 3) := by decide +kernel
theorem dX6_run_17 : decode cX6_run 17 = .ok (.getfield 230, 3) := by decide +kernel
theorem dX6_run_20 : decode cX6_run 20 = .ok (.iload_n 1, 1) := by decide +kernel
theorem dX6_run_21 : decode cX6_run 21 = .ok (.iadd, 1) := by decide +kernel
theorem dX6_run_22 : decode cX6_run 22 = .ok (.ldc 233, 2) := by decide +kernel
theorem dX6_run_24 : decode cX6_run 24 = .ok (.if_icmp .le 6, 3) := by decide +kernel
theorem dX6_run_27 : decode cX6_run 27 = .ok (.bipush (-3), 2) := by decide +kernel
theorem dX6_run_29 : decode cX6_run 29 = .ok (.ireturn, 1) := by decide +kernel
theorem dX6_run_30 : decode cX6_run 30 = .ok (.aload_n 0, 1) := by decide +kernel
theorem dX6_run_31 : decode cX6_run 31 = .ok (.invokevirtual 47, 3) := by decide +kernel
theorem dX6_run_34 : decode cX6_run 34 = .ok (.aload_n 0, 1) := by decide +kernel
theorem dX6_run_35 : decode cX6_run 35 = .ok (.getfield 28, 3) := by decide +kernel
theorem dX6_run_38 : decode cX6_run 38 = .ok (.bipush 6, 2) := by decide +kernel
theorem dX6_run_40 : decode cX6_run 40 = .ok (.invokevirtual 157, 3) := by decide +kernel
theorem dX6_run_43 : decode cX6_run 43 = .ok (.istore_n 2, 1) := by decide +kernel
theorem dX6_run_44 : decode cX6_run 44 = .ok (.aload_n 0, 1) := by decide +kernel
theorem dX6_run_45 : decode cX6_run 45 = .ok (.getfield 28, 3) := by decide +kernel
theorem dX6_run_48 : decode cX6_run 48 = .ok (.invokevirtual 221, 3) := by decide +kernel
theorem dX6_run_51 : decode cX6_run 51 = .ok (.iconst 0, 1) := by decide +kernel
theorem dX6_run_52 : decode cX6_run 52 = .ok (.istore_n 3, 1) := by decide +kernel
theorem dX6_run_53 : decode cX6_run 53 = .ok (.iload_n 3, 1) := by decide +kernel
theorem dX6_run_54 : decode cX6_run 54 = .ok (.iload_n 1, 1) := by decide +kernel
theorem dX6_run_55 : decode cX6_run 55 = .ok (.if_icmp .ge 17, 3) := by decide +kernel
theorem dX6_run_58 : decode cX6_run 58 = .ok (.aload_n 0, 1) := by decide +kernel
theorem dX6_run_59 : decode cX6_run 59 = .ok (.getfield 28, 3) := by decide +kernel
theorem dX6_run_62 : decode cX6_run 62 = .ok (.invokevirtual 234, 3) := by decide +kernel
theorem dX6_run_65 : decode cX6_run 65 = .ok (.pop, 1) := by decide +kernel
theorem dX6_run_66 : decode cX6_run 66 = .ok (.iinc 3 1, 3) := by decide +kernel
theorem dX6_run_69 : decode cX6_run 69 = .ok (.goto (-16), 3) := by decide +kernel
theorem dX6_run_72 : decode cX6_run 72 = .ok (.aload_n 0, 1) := by decide +kernel
theorem dX6_run_73 : decode cX6_run 73 = .ok (.getfield 28, 3) := by decide +kernel
theorem dX6_run_76 : decode cX6_run 76 = .ok (.bipush 6, 2) := by decide +kernel
theorem dX6_run_78 : decode cX6_run 78 = .ok (.invokevirtual 157, 3) := by decide +kernel
theorem dX6_run_81 : decode cX6_run 81 = .ok (.iload_n 2, 1) := by decide +kernel
theorem dX6_run_82 : decode cX6_run 82 = .ok (.isub, 1) := by decide +kernel
theorem dX6_run_83 : decode cX6_run 83 = .ok (.ireturn, 1) := by decide +kernel
theorem dX6_ticksTo_0 : decode cX6_ticksTo 0 = .ok (.aload_n 0, 1) := by decide +kernel
theorem dX6_ticksTo_1 : decode cX6_ticksTo 1 = .ok (.iload_n 1, 1) := by decide +kernel
theorem dX6_ticksTo_2 : decode cX6_ticksTo 2 = .ok (.invokevirtual 135, 3) := by decide +kernel
theorem dX6_ticksTo_5 : decode cX6_ticksTo 5 = .ok (.ifCond .ne 5, 3) := by decide +kernel
theorem dX6_ticksTo_8 : decode cX6_ticksTo 8 = .ok (.iconst (-1), 1) := by decide +kernel
theorem dX6_ticksTo_9 : decode cX6_ticksTo 9 = .ok (.ireturn, 1) := by decide +kernel
theorem dX6_ticksTo_10 : decode cX6_ticksTo 10 = .ok (.aload_n 0, 1) := by decide +kernel
theorem dX6_ticksTo_11 : decode cX6_ticksTo 11 = .ok (.getfield 28, 3) := by decide +kernel
theorem dX6_ticksTo_14 : decode cX6_ticksTo 14 = .ok (.getfield 148, 3) := by decide +kernel
theorem dX6_ticksTo_17 : decode cX6_ticksTo 17 = .ok (.iload_n 1, 1) := by decide +kernel
theorem dX6_ticksTo_18 : decode cX6_ticksTo 18 = .ok (.aaload, 1) := by decide +kernel
theorem dX6_ticksTo_19 : decode cX6_ticksTo 19 = .ok (.getfield 152, 3) := by decide +kernel
theorem dX6_ticksTo_22 : decode cX6_ticksTo 22 = .ok (.bipush 6, 2) := by decide +kernel
theorem dX6_ticksTo_24 : decode cX6_ticksTo 24 = .ok (.if_icmp .ne 5, 3) := by decide +kernel
theorem dX6_ticksTo_27 : decode cX6_ticksTo 27 = .ok (.iconst 0, 1) := by decide +kernel
theorem dX6_ticksTo_28 : decode cX6_ticksTo 28 = .ok (.ireturn, 1) := by decide +kernel
theorem dX6_ticksTo_29 : decode cX6_ticksTo 29 = .ok (.aload_n 0, 1) := by decide +kernel
theorem dX6_ticksTo_30 : decode cX6_ticksTo 30 = .ok (.getfield 32, 3) := by decide +kernel
theorem dX6_ticksTo_33 : decode cX6_ticksTo 33 = .ok (.aload_n 0, 1) := by decide +kernel
theorem dX6_ticksTo_34 : decode cX6_ticksTo 34 = .ok (.getfield 28, 3) := by decide +kernel
theorem dX6_ticksTo_37 : decode cX6_ticksTo 37 = .ok (.invokevirtual 237, 3) := by decide +kernel
theorem dX6_ticksTo_40 : decode cX6_ticksTo 40 = .ok (.aload_n 0, 1) := by decide +kernel
theorem dX6_ticksTo_41 : decode cX6_ticksTo 41 = .ok (.getfield 32, 3) := by decide +kernel
theorem dX6_ticksTo_44 : decode cX6_ticksTo 44 = .ok (.invokevirtual 221, 3) := by decide +kernel
theorem dX6_ticksTo_47 : decode cX6_ticksTo 47 = .ok (.aload_n 0, 1) := by decide +kernel
theorem dX6_ticksTo_48 : decode cX6_ticksTo 48 = .ok (.getfield 32, 3) := by decide +kernel
theorem dX6_ticksTo_51 : decode cX6_ticksTo 51 = .ok (.getfield 148, 3) := by decide +kernel
theorem dX6_ticksTo_54 : decode cX6_ticksTo 54 = .ok (.iload_n 1, 1) := by decide +kernel
theorem dX6_ticksTo_55 : decode cX6_ticksTo 55 = .ok (.aaload, 1) := by decide +kernel
theorem dX6_ticksTo_56 : decode cX6_ticksTo 56 = .ok (.astore_n 2, 1) := by decide +kernel
theorem dX6_ticksTo_57 : decode cX6_ticksTo 57 = .ok (.iconst 1, 1) := by decide +kernel
theorem dX6_ticksTo_58 : decode cX6_ticksTo 58 = .ok (.istore_n 3, 1) := by decide +kernel
theorem dX6_ticksTo_59 : decode cX6_ticksTo 59 = .ok (.iload_n 3, 1) := by decide +kernel
theorem dX6_ticksTo_60 : decode cX6_ticksTo 60 = .ok (.sipush 2000, 3) := by decide +kernel
theorem dX6_ticksTo_63 : decode cX6_ticksTo 63 = .ok (.if_icmp .gt 44, 3) := by decide +kernel
theorem dX6_ticksTo_66 : decode cX6_ticksTo 66 = .ok (.aload_n 2, 1) := by decide +kernel
theorem dX6_ticksTo_67 : decode cX6_ticksTo 67 = .ok (.invokevirtual 160, 3) := by decide +kernel
theorem dX6_ticksTo_70 : decode cX6_ticksTo 70 = .ok (.ifCond .eq 37, 3) := by decide +kernel
theorem dX6_ticksTo_73 : decode cX6_ticksTo 73 = .ok (.aload_n 0, 1) := by decide +kernel
theorem dX6_ticksTo_74 : decode cX6_ticksTo 74 = .ok (.getfield 32, 3) := by decide +kernel
theorem dX6_ticksTo_77 : decode cX6_ticksTo 77 = .ok (.invokevirtual 234, 3) := by decide +kernel
theorem dX6_ticksTo_80 : decode cX6_ticksTo 80 = .ok (.istore 4, 2) := by decide +kernel
theorem dX6_ticksTo_82 : decode cX6_ticksTo 82 = .ok (.aload_n 2, 1) := by decide +kernel
theorem dX6_ticksTo_83 : decode cX6_ticksTo 83 = .ok (.getfield 152, 3) := by decide +kernel
theorem dX6_ticksTo_86 : decode cX6_ticksTo 86 = .ok (.bipush 6, 2) := by decide +kernel
theorem dX6_ticksTo_88 : decode cX6_ticksTo 88 = .ok (.if_icmp .ne 5, 3) := by decide +kernel
theorem dX6_ticksTo_91 : decode cX6_ticksTo 91 = .ok (.iload_n 3, 1) := by decide +kernel
theorem dX6_ticksTo_92 : decode cX6_ticksTo 92 = .ok (.ireturn, 1) := by decide +kernel
theorem dX6_ticksTo_93 : decode cX6_ticksTo 93 = .ok (.iload 4, 2) := by decide +kernel
theorem dX6_ticksTo_95 : decode cX6_ticksTo 95 = .ok (.ifCond .ne 6, 3) := by decide +kernel
theorem dX6_ticksTo_98 : decode cX6_ticksTo 98 = .ok (.bipush (-4), 2) := by decide +kernel
theorem dX6_ticksTo_100 : decode cX6_ticksTo 100 = .ok (.ireturn, 1) := by decide +kernel
theorem dX6_ticksTo_101 : decode cX6_ticksTo 101 = .ok (.iinc 3 1, 3) := by decide +kernel
theorem dX6_ticksTo_104 : decode cX6_ticksTo 104 = .ok (.goto (-45), 3) := by decide +kernel
theorem dX6_ticksTo_107 : decode cX6_ticksTo 107 = .ok (.bipush (-4), 2) := by decide +kernel
theorem dX6_ticksTo_109 : decode cX6_ticksTo 109 = .ok (.ireturn, 1) := by decide +kernel
theorem dX6_count_0 : decode cX6_count 0 = .ok (.iload_n 1, 1) := by decide +kernel
theorem dX6_count_1 : decode cX6_count 1 = .ok (.tableswitch 186 0 17 #[87, 95, 103, 111, 119, 119, 119, 119, 119, 119, 119, 130, 138, 146, 157, 162, 170, 178], 87) := by decide +kernel
theorem dX6_count_88 : decode cX6_count 88 = .ok (.aload_n 0, 1) := by decide +kernel
theorem dX6_count_89 : decode cX6_count 89 = .ok (.getfield 28, 3) := by decide +kernel
theorem dX6_count_92 : decode cX6_count 92 = .ok (.getfield 43, 3) := by decide +kernel
theorem dX6_count_95 : decode cX6_count 95 = .ok (.ireturn, 1) := by decide +kernel
theorem dX6_count_96 : decode cX6_count 96 = .ok (.aload_n 0, 1) := by decide +kernel
theorem dX6_count_97 : decode cX6_count 97 = .ok (.getfield 28, 3) := by decide +kernel
theorem dX6_count_100 : decode cX6_count 100 = .ok (.invokevirtual 75, 3) := by decide +kernel
theorem dX6_count_103 : decode cX6_count 103 = .ok (.ireturn, 1) := by decide +kernel
theorem dX6_count_104 : decode cX6_count 104 = .ok (.aload_n 0, 1) := by decide +kernel
theorem dX6_count_105 : decode cX6_count 105 = .ok (.getfield 28, 3) := by decide +kernel
theorem dX6_count_108 : decode cX6_count 108 = .ok (.invokevirtual 241, 3) := by decide +kernel
theorem dX6_count_111 : decode cX6_count 111 = .ok (.ireturn, 1) := by decide +kernel
theorem dX6_count_112 : decode cX6_count 112 = .ok (.aload_n 0, 1) := by decide +kernel
theorem dX6_count_113 : decode cX6_count 113 = .ok (.getfield 28, 3) := by decide +kernel
theorem dX6_count_116 : decode cX6_count 116 = .ok (.getfield 141, 3) := by decide +kernel
theorem dX6_count_119 : decode cX6_count 119 = .ok (.ireturn, 1) := by decide +kernel
theorem dX6_count_120 : decode cX6_count 120 = .ok (.aload_n 0, 1) := by decide +kernel
theorem dX6_count_121 : decode cX6_count 121 = .ok (.getfield 28, 3) := by decide +kernel
theorem dX6_count_124 : decode cX6_count 124 = .ok (.iload_n 1, 1) := by decide +kernel
theorem dX6_count_125 : decode cX6_count 125 = .ok (.iconst 4, 1) := by decide +kernel
theorem dX6_count_126 : decode cX6_count 126 = .ok (.isub, 1) := by decide +kernel
theorem dX6_count_127 : decode cX6_count 127 = .ok (.invokevirtual 157, 3) := by decide +kernel
theorem dX6_count_130 : decode cX6_count 130 = .ok (.ireturn, 1) := by decide +kernel
theorem dX6_count_131 : decode cX6_count 131 = .ok (.aload_n 0, 1) := by decide +kernel
theorem dX6_count_132 : decode cX6_count 132 = .ok (.getfield 28, 3) := by decide +kernel
theorem dX6_count_135 : decode cX6_count 135 = .ok (.getfield 230, 3) := by decide +kernel
theorem dX6_count_138 : decode cX6_count 138 = .ok (.ireturn, 1) := by decide +kernel
theorem dX6_count_139 : decode cX6_count 139 = .ok (.aload_n 0, 1) := by decide +kernel
theorem dX6_count_140 : decode cX6_count 140 = .ok (.getfield 28, 3) := by decide +kernel
theorem dX6_count_143 : decode cX6_count 143 = .ok (.getfield 105, 3) := by decide +kernel
theorem dX6_count_146 : decode cX6_count 146 = .ok (.ireturn, 1) := by decide +kernel
theorem dX6_count_147 : decode cX6_count 147 = .ok (.aload_n 0, 1) := by decide +kernel
theorem dX6_count_148 : decode cX6_count 148 = .ok (.getfield 28, 3) := by decide +kernel
theorem dX6_count_151 : decode cX6_count 151 = .ok (.getfield 244, 3) := by decide +kernel
theorem dX6_count_154 : decode cX6_count 154 = .ok (.getfield 248, 3) := by decide +kernel
theorem dX6_count_157 : decode cX6_count 157 = .ok (.ireturn, 1) := by decide +kernel
theorem dX6_count_158 : decode cX6_count 158 = .ok (.aload_n 0, 1) := by decide +kernel
theorem dX6_count_159 : decode cX6_count 159 = .ok (.getfield 253, 3) := by decide +kernel
theorem dX6_count_162 : decode cX6_count 162 = .ok (.ireturn, 1) := by decide +kernel
theorem dX6_count_163 : decode cX6_count 163 = .ok (.aload_n 0, 1) := by decide +kernel
theorem dX6_count_164 : decode cX6_count 164 = .ok (.getfield 19, 3) := by decide +kernel
theorem dX6_count_167 : decode cX6_count 167 = .ok (.getfield 256, 3) := by decide +kernel
theorem dX6_count_170 : decode cX6_count 170 = .ok (.ireturn, 1) := by decide +kernel
theorem dX6_count_171 : decode cX6_count 171 = .ok (.aload_n 0, 1) := by decide +kernel
theorem dX6_count_172 : decode cX6_count 172 = .ok (.getfield 28, 3) := by decide +kernel
theorem dX6_count_175 : decode cX6_count 175 = .ok (.invokevirtual 257, 3) := by decide +kernel
theorem dX6_count_178 : decode cX6_count 178 = .ok (.ireturn, 1) := by decide +kernel
theorem dX6_count_179 : decode cX6_count 179 = .ok (.aload_n 0, 1) := by decide +kernel
theorem dX6_count_180 : decode cX6_count 180 = .ok (.getfield 28, 3) := by decide +kernel
theorem dX6_count_183 : decode cX6_count 183 = .ok (.invokevirtual 260, 3) := by decide +kernel
theorem dX6_count_186 : decode cX6_count 186 = .ok (.ireturn, 1) := by decide +kernel
theorem dX6_count_187 : decode cX6_count 187 = .ok (.iconst (-1), 1) := by decide +kernel
theorem dX6_count_188 : decode cX6_count 188 = .ok (.ireturn, 1) := by decide +kernel
theorem dX6_event_0 : decode cX6_event 0 = .ok (.iload_n 1, 1) := by decide +kernel
theorem dX6_event_1 : decode cX6_event 1 = .ok (.ifCond .lt 12, 3) := by decide +kernel
theorem dX6_event_4 : decode cX6_event 4 = .ok (.iload_n 2, 1) := by decide +kernel
theorem dX6_event_5 : decode cX6_event 5 = .ok (.iconst 0, 1) := by decide +kernel
theorem dX6_event_6 : decode cX6_event 6 = .ok (.iconst 2, 1) := by decide +kernel
theorem dX6_event_7 : decode cX6_event 7 = .ok (.invokestatic 39, 3) := by decide +kernel
theorem dX6_event_10 : decode cX6_event 10 = .ok (.ifCond .ne 5, 3) := by decide +kernel
theorem dX6_event_13 : decode cX6_event 13 = .ok (.iconst (-1), 1) := by decide +kernel
theorem dX6_event_14 : decode cX6_event 14 = .ok (.ireturn, 1) := by decide +kernel
theorem dX6_event_15 : decode cX6_event 15 = .ok (.iload_n 1, 1) := by decide +kernel
theorem dX6_event_16 : decode cX6_event 16 = .ok (.aload_n 0, 1) := by decide +kernel
theorem dX6_event_17 : decode cX6_event 17 = .ok (.getfield 28, 3) := by decide +kernel
theorem dX6_event_20 : decode cX6_event 20 = .ok (.getfield 244, 3) := by decide +kernel
theorem dX6_event_23 : decode cX6_event 23 = .ok (.getfield 248, 3) := by decide +kernel
theorem dX6_event_26 : decode cX6_event 26 = .ok (.if_icmp .ge 18, 3) := by decide +kernel
theorem dX6_event_29 : decode cX6_event 29 = .ok (.aload_n 0, 1) := by decide +kernel
theorem dX6_event_30 : decode cX6_event 30 = .ok (.getfield 28, 3) := by decide +kernel
theorem dX6_event_33 : decode cX6_event 33 = .ok (.getfield 244, 3) := by decide +kernel
theorem dX6_event_36 : decode cX6_event 36 = .ok (.iload_n 1, 1) := by decide +kernel
theorem dX6_event_37 : decode cX6_event 37 = .ok (.iload_n 2, 1) := by decide +kernel
theorem dX6_event_38 : decode cX6_event 38 = .ok (.invokevirtual 263, 3) := by decide +kernel
theorem dX6_event_41 : decode cX6_event 41 = .ok (.goto 5, 3) := by decide +kernel
theorem dX6_event_44 : decode cX6_event 44 = .ok (.bipush (-4), 2) := by decide +kernel
theorem dX6_event_46 : decode cX6_event 46 = .ok (.ireturn, 1) := by decide +kernel
theorem dX6_undo_0 : decode cX6_undo 0 = .ok (.aload_n 0, 1) := by decide +kernel
theorem dX6_undo_1 : decode cX6_undo 1 = .ok (.getfield 253, 3) := by decide +kernel
theorem dX6_undo_4 : decode cX6_undo 4 = .ok (.ifCond .gt 6, 3) := by decide +kernel
theorem dX6_undo_7 : decode cX6_undo 7 = .ok (.bipush (-2), 2) := by decide +kernel
theorem dX6_undo_9 : decode cX6_undo 9 = .ok (.ireturn, 1) := by decide +kernel
theorem dX6_undo_10 : decode cX6_undo 10 = .ok (.aload_n 0, 1) := by decide +kernel
theorem dX6_undo_11 : decode cX6_undo 11 = .ok (.dup, 1) := by decide +kernel
theorem dX6_undo_12 : decode cX6_undo 12 = .ok (.getfield 253, 3) := by decide +kernel
theorem dX6_undo_15 : decode cX6_undo 15 = .ok (.iconst 1, 1) := by decide +kernel
theorem dX6_undo_16 : decode cX6_undo 16 = .ok (.isub, 1) := by decide +kernel
theorem dX6_undo_17 : decode cX6_undo 17 = .ok (.putfield 253, 3) := by decide +kernel
theorem dX6_undo_20 : decode cX6_undo 20 = .ok (.aload_n 0, 1) := by decide +kernel
theorem dX6_undo_21 : decode cX6_undo 21 = .ok (.getfield 28, 3) := by decide +kernel
theorem dX6_undo_24 : decode cX6_undo 24 = .ok (.aload_n 0, 1) := by decide +kernel
theorem dX6_undo_25 : decode cX6_undo 25 = .ok (.getfield 35, 3) := by decide +kernel
theorem dX6_undo_28 : decode cX6_undo 28 = .ok (.aload_n 0, 1) := by decide +kernel
theorem dX6_undo_29 : decode cX6_undo 29 = .ok (.getfield 253, 3) := by decide +kernel
theorem dX6_undo_32 : decode cX6_undo 32 = .ok (.aaload, 1) := by decide +kernel
theorem dX6_undo_33 : decode cX6_undo 33 = .ok (.invokevirtual 237, 3) := by decide +kernel
theorem dX6_undo_36 : decode cX6_undo 36 = .ok (.aload_n 0, 1) := by decide +kernel
theorem dX6_undo_37 : decode cX6_undo 37 = .ok (.getfield 253, 3) := by decide +kernel
theorem dX6_undo_40 : decode cX6_undo 40 = .ok (.ireturn, 1) := by decide +kernel
theorem dX6_type_0 : decode cX6_type 0 = .ok (.iload_n 1, 1) := by decide +kernel
theorem dX6_type_1 : decode cX6_type 1 = .ok (.bipush 32, 2) := by decide +kernel
theorem dX6_type_3 : decode cX6_type 3 = .ok (.bipush 126, 2) := by decide +kernel
theorem dX6_type_5 : decode cX6_type 5 = .ok (.invokestatic 39, 3) := by decide +kernel
theorem dX6_type_8 : decode cX6_type 8 = .ok (.ifCond .ne 5, 3) := by decide +kernel
theorem dX6_type_11 : decode cX6_type 11 = .ok (.iconst (-1), 1) := by decide +kernel
theorem dX6_type_12 : decode cX6_type 12 = .ok (.ireturn, 1) := by decide +kernel
theorem dX6_type_13 : decode cX6_type 13 = .ok (.aload_n 0, 1) := by decide +kernel
theorem dX6_type_14 : decode cX6_type 14 = .ok (.getfield 19, 3) := by decide +kernel
theorem dX6_type_17 : decode cX6_type 17 = .ok (.getfield 256, 3) := by decide +kernel
theorem dX6_type_20 : decode cX6_type 20 = .ok (.bipush 100, 2) := by decide +kernel
theorem dX6_type_22 : decode cX6_type 22 = .ok (.if_icmp .lt 6, 3) := by decide +kernel
theorem dX6_type_25 : decode cX6_type 25 = .ok (.bipush (-3), 2) := by decide +kernel
theorem dX6_type_27 : decode cX6_type 27 = .ok (.ireturn, 1) := by decide +kernel
theorem dX6_type_28 : decode cX6_type 28 = .ok (.aload_n 0, 1) := by decide +kernel
theorem dX6_type_29 : decode cX6_type 29 = .ok (.getfield 19, 3) := by decide +kernel
theorem dX6_type_32 : decode cX6_type 32 = .ok (.iload_n 1, 1) := by decide +kernel
theorem dX6_type_33 : decode cX6_type 33 = .ok (.i2c, 1) := by decide +kernel
theorem dX6_type_34 : decode cX6_type 34 = .ok (.invokevirtual 265, 3) := by decide +kernel
theorem dX6_type_37 : decode cX6_type 37 = .ok (.aload_n 0, 1) := by decide +kernel
theorem dX6_type_38 : decode cX6_type 38 = .ok (.getfield 19, 3) := by decide +kernel
theorem dX6_type_41 : decode cX6_type 41 = .ok (.getfield 256, 3) := by decide +kernel
theorem dX6_type_44 : decode cX6_type 44 = .ok (.ireturn, 1) := by decide +kernel
theorem dX6_clearText_0 : decode cX6_clearText 0 = .ok (.aload_n 0, 1) := by decide +kernel
theorem dX6_clearText_1 : decode cX6_clearText 1 = .ok (.getfield 19, 3) := by decide +kernel
theorem dX6_clearText_4 : decode cX6_clearText 4 = .ok (.getfield 256, 3) := by decide +kernel
theorem dX6_clearText_7 : decode cX6_clearText 7 = .ok (.istore_n 1, 1) := by decide +kernel
theorem dX6_clearText_8 : decode cX6_clearText 8 = .ok (.aload_n 0, 1) := by decide +kernel
theorem dX6_clearText_9 : decode cX6_clearText 9 = .ok (.getfield 19, 3) := by decide +kernel
theorem dX6_clearText_12 : decode cX6_clearText 12 = .ok (.iconst 0, 1) := by decide +kernel
theorem dX6_clearText_13 : decode cX6_clearText 13 = .ok (.putfield 256, 3) := by decide +kernel
theorem dX6_clearText_16 : decode cX6_clearText 16 = .ok (.iload_n 1, 1) := by decide +kernel
theorem dX6_clearText_17 : decode cX6_clearText 17 = .ok (.ireturn, 1) := by decide +kernel
theorem dX6_fault_0 : decode cX6_fault 0 = .ok (.iload_n 1, 1) := by decide +kernel
theorem dX6_fault_1 : decode cX6_fault 1 = .ok (.iconst 0, 1) := by decide +kernel
theorem dX6_fault_2 : decode cX6_fault 2 = .ok (.iconst 1, 1) := by decide +kernel
theorem dX6_fault_3 : decode cX6_fault 3 = .ok (.invokestatic 39, 3) := by decide +kernel
theorem dX6_fault_6 : decode cX6_fault 6 = .ok (.ifCond .ne 5, 3) := by decide +kernel
theorem dX6_fault_9 : decode cX6_fault 9 = .ok (.iconst (-1), 1) := by decide +kernel
theorem dX6_fault_10 : decode cX6_fault 10 = .ok (.ireturn, 1) := by decide +kernel
theorem dX6_fault_11 : decode cX6_fault 11 = .ok (.aload_n 0, 1) := by decide +kernel
theorem dX6_fault_12 : decode cX6_fault 12 = .ok (.getfield 19, 3) := by decide +kernel
theorem dX6_fault_15 : decode cX6_fault 15 = .ok (.invokevirtual 109, 3) := by decide +kernel
theorem dX6_fault_18 : decode cX6_fault 18 = .ok (.aload_n 0, 1) := by decide +kernel
theorem dX6_fault_19 : decode cX6_fault 19 = .ok (.getfield 19, 3) := by decide +kernel
theorem dX6_fault_22 : decode cX6_fault 22 = .ok (.getfield 112, 3) := by decide +kernel
theorem dX6_fault_25 : decode cX6_fault 25 = .ok (.ifCond .ne 6, 3) := by decide +kernel
theorem dX6_fault_28 : decode cX6_fault 28 = .ok (.bipush (-4), 2) := by decide +kernel
theorem dX6_fault_30 : decode cX6_fault 30 = .ok (.ireturn, 1) := by decide +kernel
theorem dX6_fault_31 : decode cX6_fault 31 = .ok (.iload_n 1, 1) := by decide +kernel
theorem dX6_fault_32 : decode cX6_fault 32 = .ok (.ifCond .ne 13, 3) := by decide +kernel
theorem dX6_fault_35 : decode cX6_fault 35 = .ok (.aload_n 0, 1) := by decide +kernel
theorem dX6_fault_36 : decode cX6_fault 36 = .ok (.getfield 19, 3) := by decide +kernel
theorem dX6_fault_39 : decode cX6_fault 39 = .ok (.getfield 269, 3) := by decide +kernel
theorem dX6_fault_42 : decode cX6_fault 42 = .ok (.goto 10, 3) := by decide +kernel
theorem dX6_fault_45 : decode cX6_fault 45 = .ok (.aload_n 0, 1) := by decide +kernel
theorem dX6_fault_46 : decode cX6_fault 46 = .ok (.getfield 19, 3) := by decide +kernel
theorem dX6_fault_49 : decode cX6_fault 49 = .ok (.getfield 112, 3) := by decide +kernel
theorem dX6_fault_52 : decode cX6_fault 52 = .ok (.ireturn, 1) := by decide +kernel
theorem dX6_record_0 : decode cX6_record 0 = .ok (.aload_n 0, 1) := by decide +kernel
theorem dX6_record_1 : decode cX6_record 1 = .ok (.getfield 253, 3) := by decide +kernel
theorem dX6_record_4 : decode cX6_record 4 = .ok (.iconst 4, 1) := by decide +kernel
theorem dX6_record_5 : decode cX6_record 5 = .ok (.if_icmp .lt 49, 3) := by decide +kernel
theorem dX6_record_8 : decode cX6_record 8 = .ok (.aload_n 0, 1) := by decide +kernel
theorem dX6_record_9 : decode cX6_record 9 = .ok (.getfield 35, 3) := by decide +kernel
theorem dX6_record_12 : decode cX6_record 12 = .ok (.iconst 0, 1) := by decide +kernel
theorem dX6_record_13 : decode cX6_record 13 = .ok (.aaload, 1) := by decide +kernel
theorem dX6_record_14 : decode cX6_record 14 = .ok (.astore_n 1, 1) := by decide +kernel
theorem dX6_record_15 : decode cX6_record 15 = .ok (.iconst 1, 1) := by decide +kernel
theorem dX6_record_16 : decode cX6_record 16 = .ok (.istore_n 2, 1) := by decide +kernel
theorem dX6_record_17 : decode cX6_record 17 = .ok (.iload_n 2, 1) := by decide +kernel
theorem dX6_record_18 : decode cX6_record 18 = .ok (.iconst 4, 1) := by decide +kernel
theorem dX6_record_19 : decode cX6_record 19 = .ok (.if_icmp .ge 23, 3) := by decide +kernel
theorem dX6_record_22 : decode cX6_record 22 = .ok (.aload_n 0, 1) := by decide +kernel
theorem dX6_record_23 : decode cX6_record 23 = .ok (.getfield 35, 3) := by decide +kernel
theorem dX6_record_26 : decode cX6_record 26 = .ok (.iload_n 2, 1) := by decide +kernel
theorem dX6_record_27 : decode cX6_record 27 = .ok (.iconst 1, 1) := by decide +kernel
theorem dX6_record_28 : decode cX6_record 28 = .ok (.isub, 1) := by decide +kernel
theorem dX6_record_29 : decode cX6_record 29 = .ok (.aload_n 0, 1) := by decide +kernel
theorem dX6_record_30 : decode cX6_record 30 = .ok (.getfield 35, 3) := by decide +kernel
theorem dX6_record_33 : decode cX6_record 33 = .ok (.iload_n 2, 1) := by decide +kernel
theorem dX6_record_34 : decode cX6_record 34 = .ok (.aaload, 1) := by decide +kernel
theorem dX6_record_35 : decode cX6_record 35 = .ok (.aastore, 1) := by decide +kernel
theorem dX6_record_36 : decode cX6_record 36 = .ok (.iinc 2 1, 3) := by decide +kernel
theorem dX6_record_39 : decode cX6_record 39 = .ok (.goto (-22), 3) := by decide +kernel
theorem dX6_record_42 : decode cX6_record 42 = .ok (.aload_n 0, 1) := by decide +kernel
theorem dX6_record_43 : decode cX6_record 43 = .ok (.getfield 35, 3) := by decide +kernel
theorem dX6_record_46 : decode cX6_record 46 = .ok (.iconst 3, 1) := by decide +kernel
theorem dX6_record_47 : decode cX6_record 47 = .ok (.aload_n 1, 1) := by decide +kernel
theorem dX6_record_48 : decode cX6_record 48 = .ok (.aastore, 1) := by decide +kernel
theorem dX6_record_49 : decode cX6_record 49 = .ok (.aload_n 0, 1) := by decide +kernel
theorem dX6_record_50 : decode cX6_record 50 = .ok (.iconst 3, 1) := by decide +kernel
theorem dX6_record_51 : decode cX6_record 51 = .ok (.putfield 253, 3) := by decide +kernel
theorem dX6_record_54 : decode cX6_record 54 = .ok (.aload_n 0, 1) := by decide +kernel
theorem dX6_record_55 : decode cX6_record 55 = .ok (.getfield 35, 3) := by decide +kernel
theorem dX6_record_58 : decode cX6_record 58 = .ok (.aload_n 0, 1) := by decide +kernel
theorem dX6_record_59 : decode cX6_record 59 = .ok (.getfield 253, 3) := by decide +kernel
theorem dX6_record_62 : decode cX6_record 62 = .ok (.aaload, 1) := by decide +kernel
theorem dX6_record_63 : decode cX6_record 63 = .ok (.aload_n 0, 1) := by decide +kernel
theorem dX6_record_64 : decode cX6_record 64 = .ok (.getfield 28, 3) := by decide +kernel
theorem dX6_record_67 : decode cX6_record 67 = .ok (.invokevirtual 237, 3) := by decide +kernel
theorem dX6_record_70 : decode cX6_record 70 = .ok (.aload_n 0, 1) := by decide +kernel
theorem dX6_record_71 : decode cX6_record 71 = .ok (.dup, 1) := by decide +kernel
theorem dX6_record_72 : decode cX6_record 72 = .ok (.getfield 253, 3) := by decide +kernel
theorem dX6_record_75 : decode cX6_record 75 = .ok (.iconst 1, 1) := by decide +kernel
theorem dX6_record_76 : decode cX6_record 76 = .ok (.iadd, 1) := by decide +kernel
theorem dX6_record_77 : decode cX6_record 77 = .ok (.putfield 253, 3) := by decide +kernel
theorem dX6_record_80 : decode cX6_record 80 = .ok (.return_, 1) := by decide +kernel
theorem dX6_isUnit_0 : decode cX6_isUnit 0 = .ok (.iload_n 1, 1) := by decide +kernel
theorem dX6_isUnit_1 : decode cX6_isUnit 1 = .ok (.iconst 0, 1) := by decide +kernel
theorem dX6_isUnit_2 : decode cX6_isUnit 2 = .ok (.aload_n 0, 1) := by decide +kernel
theorem dX6_isUnit_3 : decode cX6_isUnit 3 = .ok (.getfield 28, 3) := by decide +kernel
theorem dX6_isUnit_6 : decode cX6_isUnit 6 = .ok (.getfield 43, 3) := by decide +kernel
theorem dX6_isUnit_9 : decode cX6_isUnit 9 = .ok (.iconst 1, 1) := by decide +kernel
theorem dX6_isUnit_10 : decode cX6_isUnit 10 = .ok (.isub, 1) := by decide +kernel
theorem dX6_isUnit_11 : decode cX6_isUnit 11 = .ok (.invokestatic 39, 3) := by decide +kernel
theorem dX6_isUnit_14 : decode cX6_isUnit 14 = .ok (.ireturn, 1) := by decide +kernel
theorem dX6_isBatch_0 : decode cX6_isBatch 0 = .ok (.iload_n 1, 1) := by decide +kernel
theorem dX6_isBatch_1 : decode cX6_isBatch 1 = .ok (.iconst 0, 1) := by decide +kernel
theorem dX6_isBatch_2 : decode cX6_isBatch 2 = .ok (.aload_n 0, 1) := by decide +kernel
theorem dX6_isBatch_3 : decode cX6_isBatch 3 = .ok (.getfield 28, 3) := by decide +kernel
theorem dX6_isBatch_6 : decode cX6_isBatch 6 = .ok (.getfield 141, 3) := by decide +kernel
theorem dX6_isBatch_9 : decode cX6_isBatch 9 = .ok (.iconst 1, 1) := by decide +kernel
theorem dX6_isBatch_10 : decode cX6_isBatch 10 = .ok (.isub, 1) := by decide +kernel
theorem dX6_isBatch_11 : decode cX6_isBatch 11 = .ok (.invokestatic 39, 3) := by decide +kernel
theorem dX6_isBatch_14 : decode cX6_isBatch 14 = .ok (.ireturn, 1) := by decide +kernel
theorem dX6_isRecipe_0 : decode cX6_isRecipe 0 = .ok (.iload_n 0, 1) := by decide +kernel
theorem dX6_isRecipe_1 : decode cX6_isRecipe 1 = .ok (.iconst 0, 1) := by decide +kernel
theorem dX6_isRecipe_2 : decode cX6_isRecipe 2 = .ok (.iconst 5, 1) := by decide +kernel
theorem dX6_isRecipe_3 : decode cX6_isRecipe 3 = .ok (.invokestatic 39, 3) := by decide +kernel
theorem dX6_isRecipe_6 : decode cX6_isRecipe 6 = .ok (.ireturn, 1) := by decide +kernel
theorem dX6_isPriority_0 : decode cX6_isPriority 0 = .ok (.iload_n 0, 1) := by decide +kernel
theorem dX6_isPriority_1 : decode cX6_isPriority 1 = .ok (.iconst 0, 1) := by decide +kernel
theorem dX6_isPriority_2 : decode cX6_isPriority 2 = .ok (.bipush 9, 2) := by decide +kernel
theorem dX6_isPriority_4 : decode cX6_isPriority 4 = .ok (.invokestatic 39, 3) := by decide +kernel
theorem dX6_isPriority_7 : decode cX6_isPriority 7 = .ok (.ireturn, 1) := by decide +kernel
theorem dX6_isWithin_0 : decode cX6_isWithin 0 = .ok (.iload_n 0, 1) := by decide +kernel
theorem dX6_isWithin_1 : decode cX6_isWithin 1 = .ok (.iload_n 1, 1) := by decide +kernel
theorem dX6_isWithin_2 : decode cX6_isWithin 2 = .ok (.if_icmp .lt 12, 3) := by decide +kernel
theorem dX6_isWithin_5 : decode cX6_isWithin 5 = .ok (.iload_n 0, 1) := by decide +kernel
theorem dX6_isWithin_6 : decode cX6_isWithin 6 = .ok (.iload_n 2, 1) := by decide +kernel
theorem dX6_isWithin_7 : decode cX6_isWithin 7 = .ok (.if_icmp .gt 7, 3) := by decide +kernel
theorem dX6_isWithin_10 : decode cX6_isWithin 10 = .ok (.iconst 1, 1) := by decide +kernel
theorem dX6_isWithin_11 : decode cX6_isWithin 11 = .ok (.goto 4, 3) := by decide +kernel
theorem dX6_isWithin_14 : decode cX6_isWithin 14 = .ok (.iconst 0, 1) := by decide +kernel
theorem dX6_isWithin_15 : decode cX6_isWithin 15 = .ok (.ireturn, 1) := by decide +kernel
theorem dX6_orNotFound_0 : decode cX6_orNotFound 0 = .ok (.iload_n 0, 1) := by decide +kernel
theorem dX6_orNotFound_1 : decode cX6_orNotFound 1 = .ok (.iconst (-1), 1) := by decide +kernel
theorem dX6_orNotFound_2 : decode cX6_orNotFound 2 = .ok (.if_icmp .ne 8, 3) := by decide +kernel
theorem dX6_orNotFound_5 : decode cX6_orNotFound 5 = .ok (.bipush (-4), 2) := by decide +kernel
theorem dX6_orNotFound_7 : decode cX6_orNotFound 7 = .ok (.goto 4, 3) := by decide +kernel
theorem dX6_orNotFound_10 : decode cX6_orNotFound 10 = .ok (.iload_n 0, 1) := by decide +kernel
theorem dX6_orNotFound_11 : decode cX6_orNotFound 11 = .ok (.ireturn, 1) := by decide +kernel
theorem dX6_oneIf_0 : decode cX6_oneIf 0 = .ok (.iload_n 0, 1) := by decide +kernel
theorem dX6_oneIf_1 : decode cX6_oneIf 1 = .ok (.ifCond .eq 7, 3) := by decide +kernel
theorem dX6_oneIf_4 : decode cX6_oneIf 4 = .ok (.iconst 1, 1) := by decide +kernel
theorem dX6_oneIf_5 : decode cX6_oneIf 5 = .ok (.goto 4, 3) := by decide +kernel
theorem dX6_oneIf_8 : decode cX6_oneIf 8 = .ok (.iconst 0, 1) := by decide +kernel
theorem dX6_oneIf_9 : decode cX6_oneIf 9 = .ok (.ireturn, 1) := by decide +kernel
theorem dX6_bitsOf_0 : decode cX6_bitsOf 0 = .ok (.fload_n 0, 1) := by decide +kernel
theorem dX6_bitsOf_1 : decode cX6_bitsOf 1 = .ok (.fstore_n 1, 1) := by decide +kernel
theorem dX6_bitsOf_2 : decode cX6_bitsOf 2 = .ok (.bipush 127, 2) := by decide +kernel
theorem dX6_bitsOf_4 : decode cX6_bitsOf 4 = .ok (.istore_n 2, 1) := by decide +kernel
theorem dX6_bitsOf_5 : decode cX6_bitsOf 5 = .ok (.iconst 0, 1) := by decide +kernel
theorem dX6_bitsOf_6 : decode cX6_bitsOf 6 = .ok (.istore_n 3, 1) := by decide +kernel
theorem dX6_bitsOf_7 : decode cX6_bitsOf 7 = .ok (.iload_n 3, 1) := by decide +kernel
theorem dX6_bitsOf_8 : decode cX6_bitsOf 8 = .ok (.bipush 127, 2) := by decide +kernel
theorem dX6_bitsOf_10 : decode cX6_bitsOf 10 = .ok (.if_icmp .ge 22, 3) := by decide +kernel
theorem dX6_bitsOf_13 : decode cX6_bitsOf 13 = .ok (.fload_n 1, 1) := by decide +kernel
theorem dX6_bitsOf_14 : decode cX6_bitsOf 14 = .ok (.fconst 2, 1) := by decide +kernel
theorem dX6_bitsOf_15 : decode cX6_bitsOf 15 = .ok (.fcmp .l, 1) := by decide +kernel
theorem dX6_bitsOf_16 : decode cX6_bitsOf 16 = .ok (.ifCond .lt 16, 3) := by decide +kernel
theorem dX6_bitsOf_19 : decode cX6_bitsOf 19 = .ok (.fload_n 1, 1) := by decide +kernel
theorem dX6_bitsOf_20 : decode cX6_bitsOf 20 = .ok (.fconst 2, 1) := by decide +kernel
theorem dX6_bitsOf_21 : decode cX6_bitsOf 21 = .ok (.fdiv, 1) := by decide +kernel
theorem dX6_bitsOf_22 : decode cX6_bitsOf 22 = .ok (.fstore_n 1, 1) := by decide +kernel
theorem dX6_bitsOf_23 : decode cX6_bitsOf 23 = .ok (.iinc 2 1, 3) := by decide +kernel
theorem dX6_bitsOf_26 : decode cX6_bitsOf 26 = .ok (.iinc 3 1, 3) := by decide +kernel
theorem dX6_bitsOf_29 : decode cX6_bitsOf 29 = .ok (.goto (-22), 3) := by decide +kernel
theorem dX6_bitsOf_32 : decode cX6_bitsOf 32 = .ok (.iconst 0, 1) := by decide +kernel
theorem dX6_bitsOf_33 : decode cX6_bitsOf 33 = .ok (.istore_n 3, 1) := by decide +kernel
theorem dX6_bitsOf_34 : decode cX6_bitsOf 34 = .ok (.iload_n 3, 1) := by decide +kernel
theorem dX6_bitsOf_35 : decode cX6_bitsOf 35 = .ok (.bipush 127, 2) := by decide +kernel
theorem dX6_bitsOf_37 : decode cX6_bitsOf 37 = .ok (.if_icmp .ge 22, 3) := by decide +kernel
theorem dX6_bitsOf_40 : decode cX6_bitsOf 40 = .ok (.fload_n 1, 1) := by decide +kernel
theorem dX6_bitsOf_41 : decode cX6_bitsOf 41 = .ok (.fconst 1, 1) := by decide +kernel
theorem dX6_bitsOf_42 : decode cX6_bitsOf 42 = .ok (.fcmp .g, 1) := by decide +kernel
theorem dX6_bitsOf_43 : decode cX6_bitsOf 43 = .ok (.ifCond .ge 16, 3) := by decide +kernel
theorem dX6_bitsOf_46 : decode cX6_bitsOf 46 = .ok (.fload_n 1, 1) := by decide +kernel
theorem dX6_bitsOf_47 : decode cX6_bitsOf 47 = .ok (.fconst 2, 1) := by decide +kernel
theorem dX6_bitsOf_48 : decode cX6_bitsOf 48 = .ok (.fmul, 1) := by decide +kernel
theorem dX6_bitsOf_49 : decode cX6_bitsOf 49 = .ok (.fstore_n 1, 1) := by decide +kernel
theorem dX6_bitsOf_50 : decode cX6_bitsOf 50 = .ok (.iinc 2 (-1), 3) := by decide +kernel
theorem dX6_bitsOf_53 : decode cX6_bitsOf 53 = .ok (.iinc 3 1, 3) := by decide +kernel
theorem dX6_bitsOf_56 : decode cX6_bitsOf 56 = .ok (.goto (-22), 3) := by decide +kernel
theorem dX6_bitsOf_59 : decode cX6_bitsOf 59 = .ok (.fload_n 1, 1) := by decide +kernel
theorem dX6_bitsOf_60 : decode cX6_bitsOf 60 = .ok (.fconst 1, 1) := by decide +kernel
theorem dX6_bitsOf_61 : decode cX6_bitsOf 61 = .ok (.fsub, 1) := by decide +kernel
theorem dX6_bitsOf_62 : decode cX6_bitsOf 62 = .ok (.ldc_w 272, 3) := by decide +kernel
theorem dX6_bitsOf_65 : decode cX6_bitsOf 65 = .ok (.fmul, 1) := by decide +kernel
theorem dX6_bitsOf_66 : decode cX6_bitsOf 66 = .ok (.f2i, 1) := by decide +kernel
theorem dX6_bitsOf_67 : decode cX6_bitsOf 67 = .ok (.istore_n 3, 1) := by decide +kernel
theorem dX6_bitsOf_68 : decode cX6_bitsOf 68 = .ok (.iload_n 2, 1) := by decide +kernel
theorem dX6_bitsOf_69 : decode cX6_bitsOf 69 = .ok (.bipush 23, 2) := by decide +kernel
theorem dX6_bitsOf_71 : decode cX6_bitsOf 71 = .ok (.ishl, 1) := by decide +kernel
theorem dX6_bitsOf_72 : decode cX6_bitsOf 72 = .ok (.iload_n 3, 1) := by decide +kernel
theorem dX6_bitsOf_73 : decode cX6_bitsOf 73 = .ok (.ior, 1) := by decide +kernel
theorem dX6_bitsOf_74 : decode cX6_bitsOf 74 = .ok (.ireturn, 1) := by decide +kernel
theorem dX7_init_0 : decode cX7_init 0 = .ok (.aload_n 0, 1) := by decide +kernel
theorem dX7_init_1 : decode cX7_init 1 = .ok (.invokespecial 1, 3) := by decide +kernel
theorem dX7_init_4 : decode cX7_init 4 = .ok (.aload_n 0, 1) := by decide +kernel
theorem dX7_init_5 : decode cX7_init 5 = .ok (.sipush 788, 3) := by decide +kernel
theorem dX7_init_8 : decode cX7_init 8 = .ok (.newarray .int, 2) := by decide +kernel
theorem dX7_init_10 : decode cX7_init 10 = .ok (.putfield 7, 3) := by decide +kernel
theorem dX7_init_13 : decode cX7_init 13 = .ok (.aload_n 0, 1) := by decide +kernel
theorem dX7_init_14 : decode cX7_init 14 = .ok (.sipush 788, 3) := by decide +kernel
theorem dX7_init_17 : decode cX7_init 17 = .ok (.newarray .int, 2) := by decide +kernel
theorem dX7_init_19 : decode cX7_init 19 = .ok (.putfield 13, 3) := by decide +kernel
theorem dX7_init_22 : decode cX7_init 22 = .ok (.aload_n 0, 1) := by decide +kernel
theorem dX7_init_23 : decode cX7_init 23 = .ok (.sipush 3152, 3) := by decide +kernel
theorem dX7_init_26 : decode cX7_init 26 = .ok (.newarray .int, 2) := by decide +kernel
theorem dX7_init_28 : decode cX7_init 28 = .ok (.putfield 16, 3) := by decide +kernel
theorem dX7_init_31 : decode cX7_init 31 = .ok (.aload_n 0, 1) := by decide +kernel
theorem dX7_init_32 : decode cX7_init 32 = .ok (.bipush 100, 2) := by decide +kernel
theorem dX7_init_34 : decode cX7_init 34 = .ok (.newarray .int, 2) := by decide +kernel
theorem dX7_init_36 : decode cX7_init 36 = .ok (.putfield 19, 3) := by decide +kernel
theorem dX7_init_39 : decode cX7_init 39 = .ok (.aload_n 0, 1) := by decide +kernel
theorem dX7_init_40 : decode cX7_init 40 = .ok (.bipush 8, 2) := by decide +kernel
theorem dX7_init_42 : decode cX7_init 42 = .ok (.newarray .int, 2) := by decide +kernel
theorem dX7_init_44 : decode cX7_init 44 = .ok (.putfield 22, 3) := by decide +kernel
theorem dX7_init_47 : decode cX7_init 47 = .ok (.aload_n 0, 1) := by decide +kernel
theorem dX7_init_48 : decode cX7_init 48 = .ok (.bipush 12, 2) := by decide +kernel
theorem dX7_init_50 : decode cX7_init 50 = .ok (.newarray .int, 2) := by decide +kernel
theorem dX7_init_52 : decode cX7_init 52 = .ok (.putfield 25, 3) := by decide +kernel
theorem dX7_init_55 : decode cX7_init 55 = .ok (.aload_n 0, 1) := by decide +kernel
theorem dX7_init_56 : decode cX7_init 56 = .ok (.getfield 7, 3) := by decide +kernel
theorem dX7_init_59 : decode cX7_init 59 = .ok (.iconst 0, 1) := by decide +kernel
theorem dX7_init_60 : decode cX7_init 60 = .ok (.iconst 2, 1) := by decide +kernel
theorem dX7_init_61 : decode cX7_init 61 = .ok (.iastore, 1) := by decide +kernel
theorem dX7_init_62 : decode cX7_init 62 = .ok (.iconst 0, 1) := by decide +kernel
theorem dX7_init_63 : decode cX7_init 63 = .ok (.istore_n 1, 1) := by decide +kernel
theorem dX7_init_64 : decode cX7_init 64 = .ok (.iload_n 1, 1) := by decide +kernel
theorem dX7_init_65 : decode cX7_init 65 = .ok (.iconst 3, 1) := by decide +kernel
theorem dX7_init_66 : decode cX7_init 66 = .ok (.if_icmp .ge 19, 3) := by decide +kernel
theorem dX7_init_69 : decode cX7_init 69 = .ok (.aload_n 0, 1) := by decide +kernel
theorem dX7_init_70 : decode cX7_init 70 = .ok (.getfield 7, 3) := by decide +kernel
theorem dX7_init_73 : decode cX7_init 73 = .ok (.bipush 53, 2) := by decide +kernel
theorem dX7_init_75 : decode cX7_init 75 = .ok (.iload_n 1, 1) := by decide +kernel
theorem dX7_init_76 : decode cX7_init 76 = .ok (.iadd, 1) := by decide +kernel
theorem dX7_init_77 : decode cX7_init 77 = .ok (.iconst (-1), 1) := by decide +kernel
theorem dX7_init_78 : decode cX7_init 78 = .ok (.iastore, 1) := by decide +kernel
theorem dX7_init_79 : decode cX7_init 79 = .ok (.iinc 1 1, 3) := by decide +kernel
theorem dX7_init_82 : decode cX7_init 82 = .ok (.goto (-18), 3) := by decide +kernel
theorem dX7_init_85 : decode cX7_init 85 = .ok (.return_, 1) := by decide +kernel
theorem dX7_in_0 : decode cX7_in 0 = .ok (.iload_n 0, 1) := by decide +kernel
theorem dX7_in_1 : decode cX7_in 1 = .ok (.iload_n 1, 1) := by decide +kernel
theorem dX7_in_2 : decode cX7_in 2 = .ok (.if_icmp .lt 12, 3) := by decide +kernel
theorem dX7_in_5 : decode cX7_in 5 = .ok (.iload_n 0, 1) := by decide +kernel
theorem dX7_in_6 : decode cX7_in 6 = .ok (.iload_n 2, 1) := by decide +kernel
theorem dX7_in_7 : decode cX7_in 7 = .ok (.if_icmp .gt 7, 3) := by decide +kernel
theorem dX7_in_10 : decode cX7_in 10 = .ok (.iconst 1, 1) := by decide +kernel
theorem dX7_in_11 : decode cX7_in 11 = .ok (.goto 4, 3) := by decide +kernel
theorem dX7_in_14 : decode cX7_in 14 = .ok (.iconst 0, 1) := by decide +kernel
theorem dX7_in_15 : decode cX7_in 15 = .ok (.ireturn, 1) := by decide +kernel
theorem dX7_bring_0 : decode cX7_bring 0 = .ok (.iconst 0, 1) := by decide +kernel
theorem dX7_bring_1 : decode cX7_bring 1 = .ok (.istore 4, 2) := by decide +kernel
theorem dX7_bring_3 : decode cX7_bring 3 = .ok (.iload 4, 2) := by decide +kernel
theorem dX7_bring_5 : decode cX7_bring 5 = .ok (.sipush 788, 3) := by decide +kernel
theorem dX7_bring_8 : decode cX7_bring 8 = .ok (.if_icmp .ge 21, 3) := by decide +kernel
theorem dX7_bring_11 : decode cX7_bring 11 = .ok (.aload_n 2, 1) := by decide +kernel
theorem dX7_bring_12 : decode cX7_bring 12 = .ok (.iload_n 3, 1) := by decide +kernel
theorem dX7_bring_13 : decode cX7_bring 13 = .ok (.iload 4, 2) := by decide +kernel
theorem dX7_bring_15 : decode cX7_bring 15 = .ok (.iadd, 1) := by decide +kernel
theorem dX7_bring_16 : decode cX7_bring 16 = .ok (.aload_n 0, 1) := by decide +kernel
theorem dX7_bring_17 : decode cX7_bring 17 = .ok (.iload_n 1, 1) := by decide +kernel
theorem dX7_bring_18 : decode cX7_bring 18 = .ok (.iload 4, 2) := by decide +kernel
theorem dX7_bring_20 : decode cX7_bring 20 = .ok (.iadd, 1) := by decide +kernel
theorem dX7_bring_21 : decode cX7_bring 21 = .ok (.iaload, 1) := by decide +kernel
theorem dX7_bring_22 : decode cX7_bring 22 = .ok (.iastore, 1) := by decide +kernel
theorem dX7_bring_23 : decode cX7_bring 23 = .ok (.iinc 4 1, 3) := by decide +kernel
theorem dX7_bring_26 : decode cX7_bring 26 = .ok (.goto (-23), 3) := by decide +kernel
theorem dX7_bring_29 : decode cX7_bring 29 = .ok (.return_, 1) := by decide +kernel
theorem dX7_keep_0 : decode cX7_keep 0 = .ok (.aload_n 0, 1) := by decide +kernel
theorem dX7_keep_1 : decode cX7_keep 1 = .ok (.getfield 28, 3) := by decide +kernel
theorem dX7_keep_4 : decode cX7_keep 4 = .ok (.iconst 4, 1) := by decide +kernel
theorem dX7_keep_5 : decode cX7_keep 5 = .ok (.if_icmp .ne 44, 3) := by decide +kernel
theorem dX7_keep_8 : decode cX7_keep 8 = .ok (.iconst 0, 1) := by decide +kernel
theorem dX7_keep_9 : decode cX7_keep 9 = .ok (.istore_n 1, 1) := by decide +kernel
theorem dX7_keep_10 : decode cX7_keep 10 = .ok (.iload_n 1, 1) := by decide +kernel
theorem dX7_keep_11 : decode cX7_keep 11 = .ok (.sipush 2364, 3) := by decide +kernel
theorem dX7_keep_14 : decode cX7_keep 14 = .ok (.if_icmp .ge 25, 3) := by decide +kernel
theorem dX7_keep_17 : decode cX7_keep 17 = .ok (.aload_n 0, 1) := by decide +kernel
theorem dX7_keep_18 : decode cX7_keep 18 = .ok (.getfield 16, 3) := by decide +kernel
theorem dX7_keep_21 : decode cX7_keep 21 = .ok (.iload_n 1, 1) := by decide +kernel
theorem dX7_keep_22 : decode cX7_keep 22 = .ok (.aload_n 0, 1) := by decide +kernel
theorem dX7_keep_23 : decode cX7_keep 23 = .ok (.getfield 16, 3) := by decide +kernel
theorem dX7_keep_26 : decode cX7_keep 26 = .ok (.iload_n 1, 1) := by decide +kernel
theorem dX7_keep_27 : decode cX7_keep 27 = .ok (.sipush 788, 3) := by decide +kernel
theorem dX7_keep_30 : decode cX7_keep 30 = .ok (.iadd, 1) := by decide +kernel
theorem dX7_keep_31 : decode cX7_keep 31 = .ok (.iaload, 1) := by decide +kernel
theorem dX7_keep_32 : decode cX7_keep 32 = .ok (.iastore, 1) := by decide +kernel
theorem dX7_keep_33 : decode cX7_keep 33 = .ok (.iinc 1 1, 3) := by decide +kernel
theorem dX7_keep_36 : decode cX7_keep 36 = .ok (.goto (-26), 3) := by decide +kernel
theorem dX7_keep_39 : decode cX7_keep 39 = .ok (.aload_n 0, 1) := by decide +kernel
theorem dX7_keep_40 : decode cX7_keep 40 = .ok (.dup, 1) := by decide +kernel
theorem dX7_keep_41 : decode cX7_keep 41 = .ok (.getfield 28, 3) := by decide +kernel
theorem dX7_keep_44 : decode cX7_keep 44 = .ok (.iconst 1, 1) := by decide +kernel
theorem dX7_keep_45 : decode cX7_keep 45 = .ok (.isub, 1) := by decide +kernel
theorem dX7_keep_46 : decode cX7_keep 46 = .ok (.putfield 28, 3) := by decide +kernel
theorem dX7_keep_49 : decode cX7_keep 49 = .ok (.aload_n 0, 1) := by decide +kernel
theorem dX7_keep_50 : decode cX7_keep 50 = .ok (.getfield 7, 3) := by decide +kernel
theorem dX7_keep_53 : decode cX7_keep 53 = .ok (.iconst 0, 1) := by decide +kernel
theorem dX7_keep_54 : decode cX7_keep 54 = .ok (.aload_n 0, 1) := by decide +kernel
theorem dX7_keep_55 : decode cX7_keep 55 = .ok (.getfield 16, 3) := by decide +kernel
theorem dX7_keep_58 : decode cX7_keep 58 = .ok (.sipush 788, 3) := by decide +kernel
theorem dX7_keep_61 : decode cX7_keep 61 = .ok (.aload_n 0, 1) := by decide +kernel
theorem dX7_keep_62 : decode cX7_keep 62 = .ok (.getfield 28, 3) := by decide +kernel
theorem dX7_keep_65 : decode cX7_keep 65 = .ok (.imul, 1) := by decide +kernel
theorem dX7_keep_66 : decode cX7_keep 66 = .ok (.invokestatic 32, 3) := by decide +kernel
theorem dX7_keep_69 : decode cX7_keep 69 = .ok (.aload_n 0, 1) := by decide +kernel
theorem dX7_keep_70 : decode cX7_keep 70 = .ok (.dup, 1) := by decide +kernel
theorem dX7_keep_71 : decode cX7_keep 71 = .ok (.getfield 28, 3) := by decide +kernel
theorem dX7_keep_74 : decode cX7_keep 74 = .ok (.iconst 1, 1) := by decide +kernel
theorem dX7_keep_75 : decode cX7_keep 75 = .ok (.iadd, 1) := by decide +kernel
theorem dX7_keep_76 : decode cX7_keep 76 = .ok (.putfield 28, 3) := by decide +kernel
theorem dX7_keep_79 : decode cX7_keep 79 = .ok (.return_, 1) := by decide +kernel
theorem dX7_isUnit_0 : decode cX7_isUnit 0 = .ok (.iload_n 1, 1) := by decide +kernel
theorem dX7_isUnit_1 : decode cX7_isUnit 1 = .ok (.iconst 0, 1) := by decide +kernel
theorem dX7_isUnit_2 : decode cX7_isUnit 2 = .ok (.aload_n 0, 1) := by decide +kernel
theorem dX7_isUnit_3 : decode cX7_isUnit 3 = .ok (.getfield 7, 3) := by decide +kernel
theorem dX7_isUnit_6 : decode cX7_isUnit 6 = .ok (.iconst 2, 1) := by decide +kernel
theorem dX7_isUnit_7 : decode cX7_isUnit 7 = .ok (.iaload, 1) := by decide +kernel
theorem dX7_isUnit_8 : decode cX7_isUnit 8 = .ok (.iconst 1, 1) := by decide +kernel
theorem dX7_isUnit_9 : decode cX7_isUnit 9 = .ok (.isub, 1) := by decide +kernel
theorem dX7_isUnit_10 : decode cX7_isUnit 10 = .ok (.invokestatic 36, 3) := by decide +kernel
theorem dX7_isUnit_13 : decode cX7_isUnit 13 = .ok (.ireturn, 1) := by decide +kernel
theorem dX7_isBatch_0 : decode cX7_isBatch 0 = .ok (.iload_n 1, 1) := by decide +kernel
theorem dX7_isBatch_1 : decode cX7_isBatch 1 = .ok (.iconst 0, 1) := by decide +kernel
theorem dX7_isBatch_2 : decode cX7_isBatch 2 = .ok (.aload_n 0, 1) := by decide +kernel
theorem dX7_isBatch_3 : decode cX7_isBatch 3 = .ok (.getfield 7, 3) := by decide +kernel
theorem dX7_isBatch_6 : decode cX7_isBatch 6 = .ok (.iconst 3, 1) := by decide +kernel
theorem dX7_isBatch_7 : decode cX7_isBatch 7 = .ok (.iaload, 1) := by decide +kernel
theorem dX7_isBatch_8 : decode cX7_isBatch 8 = .ok (.iconst 1, 1) := by decide +kernel
theorem dX7_isBatch_9 : decode cX7_isBatch 9 = .ok (.isub, 1) := by decide +kernel
theorem dX7_isBatch_10 : decode cX7_isBatch 10 = .ok (.invokestatic 36, 3) := by decide +kernel
theorem dX7_isBatch_13 : decode cX7_isBatch 13 = .ok (.ireturn, 1) := by decide +kernel
theorem dX7_ofUnit_0 : decode cX7_ofUnit 0 = .ok (.aload_n 0, 1) := by decide +kernel
theorem dX7_ofUnit_1 : decode cX7_ofUnit 1 = .ok (.getfield 7, 3) := by decide +kernel
theorem dX7_ofUnit_4 : decode cX7_ofUnit 4 = .ok (.iconst 5, 1) := by decide +kernel
theorem dX7_ofUnit_5 : decode cX7_ofUnit 5 = .ok (.bipush 6, 2) := by decide +kernel
theorem dX7_ofUnit_7 : decode cX7_ofUnit 7 = .ok (.iload_n 1, 1) := by decide +kernel
theorem dX7_ofUnit_8 : decode cX7_ofUnit 8 = .ok (.imul, 1) := by decide +kernel
theorem dX7_ofUnit_9 : decode cX7_ofUnit 9 = .ok (.iadd, 1) := by decide +kernel
theorem dX7_ofUnit_10 : decode cX7_ofUnit 10 = .ok (.iload_n 2, 1) := by decide +kernel
theorem dX7_ofUnit_11 : decode cX7_ofUnit 11 = .ok (.iadd, 1) := by decide +kernel
theorem dX7_ofUnit_12 : decode cX7_ofUnit 12 = .ok (.iaload, 1) := by decide +kernel
theorem dX7_ofUnit_13 : decode cX7_ofUnit 13 = .ok (.ireturn, 1) := by decide +kernel
theorem dX7_putUnit_0 : decode cX7_putUnit 0 = .ok (.aload_n 0, 1) := by decide +kernel
theorem dX7_putUnit_1 : decode cX7_putUnit 1 = .ok (.getfield 7, 3) := by decide +kernel
theorem dX7_putUnit_4 : decode cX7_putUnit 4 = .ok (.iconst 5, 1) := by decide +kernel
theorem dX7_putUnit_5 : decode cX7_putUnit 5 = .ok (.bipush 6, 2) := by decide +kernel
theorem dX7_putUnit_7 : decode cX7_putUnit 7 = .ok (.iload_n 1, 1) := by decide +kernel
theorem dX7_putUnit_8 : decode cX7_putUnit 8 = .ok (.imul, 1) := by decide +kernel
theorem dX7_putUnit_9 : decode cX7_putUnit 9 = .ok (.iadd, 1) := by decide +kernel
theorem dX7_putUnit_10 : decode cX7_putUnit 10 = .ok (.iload_n 2, 1) := by decide +kernel
theorem dX7_putUnit_11 : decode cX7_putUnit 11 = .ok (.iadd, 1) := by decide +kernel
theorem dX7_putUnit_12 : decode cX7_putUnit 12 = .ok (.iload_n 3, 1) := by decide +kernel
theorem dX7_putUnit_13 : decode cX7_putUnit 13 = .ok (.iastore, 1) := by decide +kernel
theorem dX7_putUnit_14 : decode cX7_putUnit 14 = .ok (.return_, 1) := by decide +kernel
theorem dX7_of_0 : decode cX7_of 0 = .ok (.aload_n 0, 1) := by decide +kernel
theorem dX7_of_1 : decode cX7_of 1 = .ok (.getfield 7, 3) := by decide +kernel
theorem dX7_of_4 : decode cX7_of 4 = .ok (.sipush 548, 3) := by decide +kernel
theorem dX7_of_7 : decode cX7_of 7 = .ok (.bipush 10, 2) := by decide +kernel
theorem dX7_of_9 : decode cX7_of 9 = .ok (.iload_n 1, 1) := by decide +kernel
theorem dX7_of_10 : decode cX7_of 10 = .ok (.imul, 1) := by decide +kernel
theorem dX7_of_11 : decode cX7_of 11 = .ok (.iadd, 1) := by decide +kernel
theorem dX7_of_12 : decode cX7_of 12 = .ok (.iload_n 2, 1) := by decide +kernel
theorem dX7_of_13 : decode cX7_of 13 = .ok (.iadd, 1) := by decide +kernel
theorem dX7_of_14 : decode cX7_of 14 = .ok (.iaload, 1) := by decide +kernel
theorem dX7_of_15 : decode cX7_of 15 = .ok (.ireturn, 1) := by decide +kernel
theorem dX7_put_0 : decode cX7_put 0 = .ok (.aload_n 0, 1) := by decide +kernel
theorem dX7_put_1 : decode cX7_put 1 = .ok (.getfield 7, 3) := by decide +kernel
theorem dX7_put_4 : decode cX7_put 4 = .ok (.sipush 548, 3) := by decide +kernel
theorem dX7_put_7 : decode cX7_put 7 = .ok (.bipush 10, 2) := by decide +kernel
theorem dX7_put_9 : decode cX7_put 9 = .ok (.iload_n 1, 1) := by decide +kernel
theorem dX7_put_10 : decode cX7_put 10 = .ok (.imul, 1) := by decide +kernel
theorem dX7_put_11 : decode cX7_put 11 = .ok (.iadd, 1) := by decide +kernel
theorem dX7_put_12 : decode cX7_put 12 = .ok (.iload_n 2, 1) := by decide +kernel
theorem dX7_put_13 : decode cX7_put 13 = .ok (.iadd, 1) := by decide +kernel
theorem dX7_put_14 : decode cX7_put 14 = .ok (.iload_n 3, 1) := by decide +kernel
theorem dX7_put_15 : decode cX7_put 15 = .ok (.iastore, 1) := by decide +kernel
theorem dX7_put_16 : decode cX7_put 16 = .ok (.return_, 1) := by decide +kernel
theorem dX7_many_0 : decode cX7_many 0 = .ok (.iconst 0, 1) := by decide +kernel
theorem dX7_many_1 : decode cX7_many 1 = .ok (.istore_n 2, 1) := by decide +kernel
theorem dX7_many_2 : decode cX7_many 2 = .ok (.iconst 0, 1) := by decide +kernel
theorem dX7_many_3 : decode cX7_many 3 = .ok (.istore_n 3, 1) := by decide +kernel
theorem dX7_many_4 : decode cX7_many 4 = .ok (.iload_n 3, 1) := by decide +kernel
theorem dX7_many_5 : decode cX7_many 5 = .ok (.aload_n 0, 1) := by decide +kernel
theorem dX7_many_6 : decode cX7_many 6 = .ok (.getfield 7, 3) := by decide +kernel
theorem dX7_many_9 : decode cX7_many 9 = .ok (.iconst 3, 1) := by decide +kernel
theorem dX7_many_10 : decode cX7_many 10 = .ok (.iaload, 1) := by decide +kernel
theorem dX7_many_11 : decode cX7_many 11 = .ok (.if_icmp .ge 27, 3) := by decide +kernel
theorem dX7_many_14 : decode cX7_many 14 = .ok (.iload_n 2, 1) := by decide +kernel
theorem dX7_many_15 : decode cX7_many 15 = .ok (.aload_n 0, 1) := by decide +kernel
theorem dX7_many_16 : decode cX7_many 16 = .ok (.iload_n 3, 1) := by decide +kernel
theorem dX7_many_17 : decode cX7_many 17 = .ok (.iconst 5, 1) := by decide +kernel
theorem dX7_many_18 : decode cX7_many 18 = .ok (.invokevirtual 40, 3) := by decide +kernel
theorem dX7_many_21 : decode cX7_many 21 = .ok (.iload_n 1, 1) := by decide +kernel
theorem dX7_many_22 : decode cX7_many 22 = .ok (.if_icmp .ne 7, 3) := by decide +kernel
theorem dX7_many_25 : decode cX7_many 25 = .ok (.iconst 1, 1) := by decide +kernel
theorem dX7_many_26 : decode cX7_many 26 = .ok (.goto 4, 3) := by decide +kernel
theorem dX7_many_29 : decode cX7_many 29 = .ok (.iconst 0, 1) := by decide +kernel
theorem dX7_many_30 : decode cX7_many 30 = .ok (.iadd, 1) := by decide +kernel
theorem dX7_many_31 : decode cX7_many 31 = .ok (.istore_n 2, 1) := by decide +kernel
theorem dX7_many_32 : decode cX7_many 32 = .ok (.iinc 3 1, 3) := by decide +kernel
theorem dX7_many_35 : decode cX7_many 35 = .ok (.goto (-31), 3) := by decide +kernel
theorem dX7_many_38 : decode cX7_many 38 = .ok (.iload_n 2, 1) := by decide +kernel
theorem dX7_many_39 : decode cX7_many 39 = .ok (.ireturn, 1) := by decide +kernel
theorem dX7_note_0 : decode cX7_note 0 = .ok (.bipush 119, 2) := by decide +kernel
theorem dX7_note_2 : decode cX7_note 2 = .ok (.istore_n 3, 1) := by decide +kernel
theorem dX7_note_3 : decode cX7_note 3 = .ok (.iload_n 3, 1) := by decide +kernel
theorem dX7_note_4 : decode cX7_note 4 = .ok (.iconst 2, 1) := by decide +kernel
theorem dX7_note_5 : decode cX7_note 5 = .ok (.if_icmp .le 31, 3) := by decide +kernel
theorem dX7_note_8 : decode cX7_note 8 = .ok (.aload_n 0, 1) := by decide +kernel
theorem dX7_note_9 : decode cX7_note 9 = .ok (.getfield 7, 3) := by decide +kernel
theorem dX7_note_12 : decode cX7_note 12 = .ok (.sipush 668, 3) := by decide +kernel
theorem dX7_note_15 : decode cX7_note 15 = .ok (.iload_n 3, 1) := by decide +kernel
theorem dX7_note_16 : decode cX7_note 16 = .ok (.iadd, 1) := by decide +kernel
theorem dX7_note_17 : decode cX7_note 17 = .ok (.aload_n 0, 1) := by decide +kernel
theorem dX7_note_18 : decode cX7_note 18 = .ok (.getfield 7, 3) := by decide +kernel
theorem dX7_note_21 : decode cX7_note 21 = .ok (.sipush 668, 3) := by decide +kernel
theorem dX7_note_24 : decode cX7_note 24 = .ok (.iload_n 3, 1) := by decide +kernel
theorem dX7_note_25 : decode cX7_note 25 = .ok (.iadd, 1) := by decide +kernel
theorem dX7_note_26 : decode cX7_note 26 = .ok (.iconst 3, 1) := by decide +kernel
theorem dX7_note_27 : decode cX7_note 27 = .ok (.isub, 1) := by decide +kernel
theorem dX7_note_28 : decode cX7_note 28 = .ok (.iaload, 1) := by decide +kernel
theorem dX7_note_29 : decode cX7_note 29 = .ok (.iastore, 1) := by decide +kernel
theorem dX7_note_30 : decode cX7_note 30 = .ok (.iinc 3 (-1), 3) := by decide +kernel
theorem dX7_note_33 : decode cX7_note 33 = .ok (.goto (-30), 3) := by decide +kernel
theorem dX7_note_36 : decode cX7_note 36 = .ok (.aload_n 0, 1) := by decide +kernel
theorem dX7_note_37 : decode cX7_note 37 = .ok (.getfield 7, 3) := by decide +kernel
theorem dX7_note_40 : decode cX7_note 40 = .ok (.sipush 668, 3) := by decide +kernel
theorem dX7_note_43 : decode cX7_note 43 = .ok (.aload_n 0, 1) := by decide +kernel
theorem dX7_note_44 : decode cX7_note 44 = .ok (.getfield 7, 3) := by decide +kernel
theorem dX7_note_47 : decode cX7_note 47 = .ok (.iconst 1, 1) := by decide +kernel
theorem dX7_note_48 : decode cX7_note 48 = .ok (.iaload, 1) := by decide +kernel
theorem dX7_note_49 : decode cX7_note 49 = .ok (.iastore, 1) := by decide +kernel
theorem dX7_note_50 : decode cX7_note 50 = .ok (.aload_n 0, 1) := by decide +kernel
theorem dX7_note_51 : decode cX7_note 51 = .ok (.getfield 7, 3) := by decide +kernel
theorem dX7_note_54 : decode cX7_note 54 = .ok (.sipush 669, 3) := by decide +kernel
theorem dX7_note_57 : decode cX7_note 57 = .ok (.iload_n 1, 1) := by decide +kernel
theorem dX7_note_58 : decode cX7_note 58 = .ok (.iastore, 1) := by decide +kernel
theorem dX7_note_59 : decode cX7_note 59 = .ok (.aload_n 0, 1) := by decide +kernel
theorem dX7_note_60 : decode cX7_note 60 = .ok (.getfield 7, 3) := by decide +kernel
theorem dX7_note_63 : decode cX7_note 63 = .ok (.sipush 670, 3) := by decide +kernel
theorem dX7_note_66 : decode cX7_note 66 = .ok (.iload_n 2, 1) := by decide +kernel
theorem dX7_note_67 : decode cX7_note 67 = .ok (.iastore, 1) := by decide +kernel
theorem dX7_note_68 : decode cX7_note 68 = .ok (.aload_n 0, 1) := by decide +kernel
theorem dX7_note_69 : decode cX7_note 69 = .ok (.getfield 7, 3) := by decide +kernel
theorem dX7_note_72 : decode cX7_note 72 = .ok (.iconst 4, 1) := by decide +kernel
theorem dX7_note_73 : decode cX7_note 73 = .ok (.aload_n 0, 1) := by decide +kernel
theorem dX7_note_74 : decode cX7_note 74 = .ok (.getfield 7, 3) := by decide +kernel
theorem dX7_note_77 : decode cX7_note 77 = .ok (.iconst 4, 1) := by decide +kernel
theorem dX7_note_78 : decode cX7_note 78 = .ok (.iaload, 1) := by decide +kernel
theorem dX7_note_79 : decode cX7_note 79 = .ok (.bipush 40, 2) := by decide +kernel
theorem dX7_note_81 : decode cX7_note 81 = .ok (.if_icmp .ne 8, 3) := by decide +kernel
theorem dX7_note_84 : decode cX7_note 84 = .ok (.bipush 40, 2) := by decide +kernel
theorem dX7_note_86 : decode cX7_note 86 = .ok (.goto 11, 3) := by decide +kernel
theorem dX7_note_89 : decode cX7_note 89 = .ok (.aload_n 0, 1) := by decide +kernel
theorem dX7_note_90 : decode cX7_note 90 = .ok (.getfield 7, 3) := by decide +kernel
theorem dX7_note_93 : decode cX7_note 93 = .ok (.iconst 4, 1) := by decide +kernel
theorem dX7_note_94 : decode cX7_note 94 = .ok (.iaload, 1) := by decide +kernel
theorem dX7_note_95 : decode cX7_note 95 = .ok (.iconst 1, 1) := by decide +kernel
theorem dX7_note_96 : decode cX7_note 96 = .ok (.iadd, 1) := by decide +kernel
theorem dX7_note_97 : decode cX7_note 97 = .ok (.iastore, 1) := by decide +kernel
theorem dX7_note_98 : decode cX7_note 98 = .ok (.return_, 1) := by decide +kernel
theorem dX7_unit_0 : decode cX7_unit 0 = .ok (.iload_n 1, 1) := by decide +kernel
theorem dX7_unit_1 : decode cX7_unit 1 = .ok (.iconst 0, 1) := by decide +kernel
theorem dX7_unit_2 : decode cX7_unit 2 = .ok (.iconst 3, 1) := by decide +kernel
theorem dX7_unit_3 : decode cX7_unit 3 = .ok (.invokestatic 36, 3) := by decide +kernel
theorem dX7_unit_6 : decode cX7_unit 6 = .ok (.ifCond .eq 14, 3) := by decide +kernel
theorem dX7_unit_9 : decode cX7_unit 9 = .ok (.iload_n 2, 1) := by decide +kernel
theorem dX7_unit_10 : decode cX7_unit 10 = .ok (.iconst 1, 1) := by decide +kernel
theorem dX7_unit_11 : decode cX7_unit 11 = .ok (.sipush 10000, 3) := by decide +kernel
theorem dX7_unit_14 : decode cX7_unit 14 = .ok (.invokestatic 36, 3) := by decide +kernel
theorem dX7_unit_17 : decode cX7_unit 17 = .ok (.ifCond .ne 5, 3) := by decide +kernel
theorem dX7_unit_20 : decode cX7_unit 20 = .ok (.iconst (-1), 1) := by decide +kernel
theorem dX7_unit_21 : decode cX7_unit 21 = .ok (.ireturn, 1) := by decide +kernel
theorem dX7_unit_22 : decode cX7_unit 22 = .ok (.aload_n 0, 1) := by decide +kernel
theorem dX7_unit_23 : decode cX7_unit 23 = .ok (.getfield 7, 3) := by decide +kernel
theorem dX7_unit_26 : decode cX7_unit 26 = .ok (.iconst 2, 1) := by decide +kernel
theorem dX7_unit_27 : decode cX7_unit 27 = .ok (.iaload, 1) := by decide +kernel
theorem dX7_unit_28 : decode cX7_unit 28 = .ok (.bipush 8, 2) := by decide +kernel
theorem dX7_unit_30 : decode cX7_unit 30 = .ok (.if_icmp .ne 6, 3) := by decide +kernel
theorem dX7_unit_33 : decode cX7_unit 33 = .ok (.bipush (-3), 2) := by decide +kernel
theorem dX7_unit_35 : decode cX7_unit 35 = .ok (.ireturn, 1) := by decide +kernel
theorem dX7_unit_36 : decode cX7_unit 36 = .ok (.aload_n 0, 1) := by decide +kernel
theorem dX7_unit_37 : decode cX7_unit 37 = .ok (.invokevirtual 44, 3) := by decide +kernel
theorem dX7_unit_40 : decode cX7_unit 40 = .ok (.aload_n 0, 1) := by decide +kernel
theorem dX7_unit_41 : decode cX7_unit 41 = .ok (.getfield 7, 3) := by decide +kernel
theorem dX7_unit_44 : decode cX7_unit 44 = .ok (.iconst 2, 1) := by decide +kernel
theorem dX7_unit_45 : decode cX7_unit 45 = .ok (.iaload, 1) := by decide +kernel
theorem dX7_unit_46 : decode cX7_unit 46 = .ok (.istore_n 3, 1) := by decide +kernel
theorem dX7_unit_47 : decode cX7_unit 47 = .ok (.aload_n 0, 1) := by decide +kernel
theorem dX7_unit_48 : decode cX7_unit 48 = .ok (.getfield 7, 3) := by decide +kernel
theorem dX7_unit_51 : decode cX7_unit 51 = .ok (.iconst 2, 1) := by decide +kernel
theorem dX7_unit_52 : decode cX7_unit 52 = .ok (.dup2, 1) := by decide +kernel
theorem dX7_unit_53 : decode cX7_unit 53 = .ok (.iaload, 1) := by decide +kernel
theorem dX7_unit_54 : decode cX7_unit 54 = .ok (.iconst 1, 1) := by decide +kernel
theorem dX7_unit_55 : decode cX7_unit 55 = .ok (.iadd, 1) := by decide +kernel
theorem dX7_unit_56 : decode cX7_unit 56 = .ok (.iastore, 1) := by decide +kernel
theorem dX7_unit_57 : decode cX7_unit 57 = .ok (.aload_n 0, 1) := by decide +kernel
theorem dX7_unit_58 : decode cX7_unit 58 = .ok (.iload_n 3, 1) := by decide +kernel
theorem dX7_unit_59 : decode cX7_unit 59 = .ok (.iconst 0, 1) := by decide +kernel
theorem dX7_unit_60 : decode cX7_unit 60 = .ok (.iload_n 1, 1) := by decide +kernel
theorem dX7_unit_61 : decode cX7_unit 61 = .ok (.invokevirtual 47, 3) := by decide +kernel
theorem dX7_unit_64 : decode cX7_unit 64 = .ok (.aload_n 0, 1) := by decide +kernel
theorem dX7_unit_65 : decode cX7_unit 65 = .ok (.iload_n 3, 1) := by decide +kernel
theorem dX7_unit_66 : decode cX7_unit 66 = .ok (.iconst 1, 1) := by decide +kernel
theorem dX7_unit_67 : decode cX7_unit 67 = .ok (.iload_n 2, 1) := by decide +kernel
theorem dX7_unit_68 : decode cX7_unit 68 = .ok (.invokevirtual 47, 3) := by decide +kernel
theorem dX7_unit_71 : decode cX7_unit 71 = .ok (.aload_n 0, 1) := by decide +kernel
theorem dX7_unit_72 : decode cX7_unit 72 = .ok (.iload_n 3, 1) := by decide +kernel
theorem dX7_unit_73 : decode cX7_unit 73 = .ok (.iconst 2, 1) := by decide +kernel
theorem dX7_unit_74 : decode cX7_unit 74 = .ok (.iconst (-1), 1) := by decide +kernel
theorem dX7_unit_75 : decode cX7_unit 75 = .ok (.invokevirtual 47, 3) := by decide +kernel
theorem dX7_unit_78 : decode cX7_unit 78 = .ok (.aload_n 0, 1) := by decide +kernel
theorem dX7_unit_79 : decode cX7_unit 79 = .ok (.iload_n 3, 1) := by decide +kernel
theorem dX7_unit_80 : decode cX7_unit 80 = .ok (.iconst 3, 1) := by decide +kernel
theorem dX7_unit_81 : decode cX7_unit 81 = .ok (.iconst 0, 1) := by decide +kernel
theorem dX7_unit_82 : decode cX7_unit 82 = .ok (.invokevirtual 47, 3) := by decide +kernel
theorem dX7_unit_85 : decode cX7_unit 85 = .ok (.aload_n 0, 1) := by decide +kernel
theorem dX7_unit_86 : decode cX7_unit 86 = .ok (.iload_n 3, 1) := by decide +kernel
theorem dX7_unit_87 : decode cX7_unit 87 = .ok (.iconst 4, 1) := by decide +kernel
theorem dX7_unit_88 : decode cX7_unit 88 = .ok (.iconst 0, 1) := by decide +kernel
theorem dX7_unit_89 : decode cX7_unit 89 = .ok (.invokevirtual 47, 3) := by decide +kernel
theorem dX7_unit_92 : decode cX7_unit 92 = .ok (.aload_n 0, 1) := by decide +kernel
theorem dX7_unit_93 : decode cX7_unit 93 = .ok (.iload_n 3, 1) := by decide +kernel
theorem dX7_unit_94 : decode cX7_unit 94 = .ok (.iconst 5, 1) := by decide +kernel
theorem dX7_unit_95 : decode cX7_unit 95 = .ok (.iconst 0, 1) := by decide +kernel
theorem dX7_unit_96 : decode cX7_unit 96 = .ok (.invokevirtual 47, 3) := by decide +kernel
theorem dX7_unit_99 : decode cX7_unit 99 = .ok (.iload_n 3, 1) := by decide +kernel
theorem dX7_unit_100 : decode cX7_unit 100 = .ok (.ireturn, 1) := by decide +kernel
theorem dX7_isFree_0 : decode cX7_isFree 0 = .ok (.aload_n 0, 1) := by decide +kernel
theorem dX7_isFree_1 : decode cX7_isFree 1 = .ok (.iload_n 1, 1) := by decide +kernel
theorem dX7_isFree_2 : decode cX7_isFree 2 = .ok (.iconst 2, 1) := by decide +kernel
theorem dX7_isFree_3 : decode cX7_isFree 3 = .ok (.invokevirtual 51, 3) := by decide +kernel
theorem dX7_isFree_6 : decode cX7_isFree 6 = .ok (.iconst (-1), 1) := by decide +kernel
theorem dX7_isFree_7 : decode cX7_isFree 7 = .ok (.if_icmp .ne 25, 3) := by decide +kernel
theorem dX7_isFree_10 : decode cX7_isFree 10 = .ok (.aload_n 0, 1) := by decide +kernel
theorem dX7_isFree_11 : decode cX7_isFree 11 = .ok (.iload_n 1, 1) := by decide +kernel
theorem dX7_isFree_12 : decode cX7_isFree 12 = .ok (.iconst 3, 1) := by decide +kernel
theorem dX7_isFree_13 : decode cX7_isFree 13 = .ok (.invokevirtual 51, 3) := by decide +kernel
theorem dX7_isFree_16 : decode cX7_isFree 16 = .ok (.ifCond .ne 16, 3) := by decide +kernel
theorem dX7_isFree_19 : decode cX7_isFree 19 = .ok (.aload_n 0, 1) := by decide +kernel
theorem dX7_isFree_20 : decode cX7_isFree 20 = .ok (.iload_n 1, 1) := by decide +kernel
theorem dX7_isFree_21 : decode cX7_isFree 21 = .ok (.iconst 4, 1) := by decide +kernel
theorem dX7_isFree_22 : decode cX7_isFree 22 = .ok (.invokevirtual 51, 3) := by decide +kernel
theorem dX7_isFree_25 : decode cX7_isFree 25 = .ok (.ifCond .ne 7, 3) := by decide +kernel
theorem dX7_isFree_28 : decode cX7_isFree 28 = .ok (.iconst 1, 1) := by decide +kernel
theorem dX7_isFree_29 : decode cX7_isFree 29 = .ok (.goto 4, 3) := by decide +kernel
theorem dX7_isFree_32 : decode cX7_isFree 32 = .ok (.iconst 0, 1) := by decide +kernel
theorem dX7_isFree_33 : decode cX7_isFree 33 = .ok (.ireturn, 1) := by decide +kernel
theorem dX7_releaseUnit_0 : decode cX7_releaseUnit 0 = .ok (.aload_n 0, 1) := by decide +kernel
theorem dX7_releaseUnit_1 : decode cX7_releaseUnit 1 = .ok (.iload_n 1, 1) := by decide +kernel
theorem dX7_releaseUnit_2 : decode cX7_releaseUnit 2 = .ok (.bipush 8, 2) := by decide +kernel
theorem dX7_releaseUnit_4 : decode cX7_releaseUnit 4 = .ok (.invokevirtual 40, 3) := by decide +kernel
theorem dX7_releaseUnit_7 : decode cX7_releaseUnit 7 = .ok (.istore_n 2, 1) := by decide +kernel
theorem dX7_releaseUnit_8 : decode cX7_releaseUnit 8 = .ok (.iload_n 2, 1) := by decide +kernel
theorem dX7_releaseUnit_9 : decode cX7_releaseUnit 9 = .ok (.iconst (-1), 1) := by decide +kernel
theorem dX7_releaseUnit_10 : decode cX7_releaseUnit 10 = .ok (.if_icmp .eq 30, 3) := by decide +kernel
theorem dX7_releaseUnit_13 : decode cX7_releaseUnit 13 = .ok (.aload_n 0, 1) := by decide +kernel
theorem dX7_releaseUnit_14 : decode cX7_releaseUnit 14 = .ok (.iload_n 2, 1) := by decide +kernel
theorem dX7_releaseUnit_15 : decode cX7_releaseUnit 15 = .ok (.iconst 2, 1) := by decide +kernel
theorem dX7_releaseUnit_16 : decode cX7_releaseUnit 16 = .ok (.iconst (-1), 1) := by decide +kernel
theorem dX7_releaseUnit_17 : decode cX7_releaseUnit 17 = .ok (.invokevirtual 47, 3) := by decide +kernel
theorem dX7_releaseUnit_20 : decode cX7_releaseUnit 20 = .ok (.aload_n 0, 1) := by decide +kernel
theorem dX7_releaseUnit_21 : decode cX7_releaseUnit 21 = .ok (.iload_n 2, 1) := by decide +kernel
theorem dX7_releaseUnit_22 : decode cX7_releaseUnit 22 = .ok (.iconst 4, 1) := by decide +kernel
theorem dX7_releaseUnit_23 : decode cX7_releaseUnit 23 = .ok (.aload_n 0, 1) := by decide +kernel
theorem dX7_releaseUnit_24 : decode cX7_releaseUnit 24 = .ok (.getfield 7, 3) := by decide +kernel
theorem dX7_releaseUnit_27 : decode cX7_releaseUnit 27 = .ok (.iconst 0, 1) := by decide +kernel
theorem dX7_releaseUnit_28 : decode cX7_releaseUnit 28 = .ok (.iaload, 1) := by decide +kernel
theorem dX7_releaseUnit_29 : decode cX7_releaseUnit 29 = .ok (.invokevirtual 47, 3) := by decide +kernel
theorem dX7_releaseUnit_32 : decode cX7_releaseUnit 32 = .ok (.aload_n 0, 1) := by decide +kernel
theorem dX7_releaseUnit_33 : decode cX7_releaseUnit 33 = .ok (.iload_n 1, 1) := by decide +kernel
theorem dX7_releaseUnit_34 : decode cX7_releaseUnit 34 = .ok (.bipush 8, 2) := by decide +kernel
theorem dX7_releaseUnit_36 : decode cX7_releaseUnit 36 = .ok (.iconst (-1), 1) := by decide +kernel
theorem dX7_releaseUnit_37 : decode cX7_releaseUnit 37 = .ok (.invokevirtual 54, 3) := by decide +kernel
theorem dX7_releaseUnit_40 : decode cX7_releaseUnit 40 = .ok (.return_, 1) := by decide +kernel
theorem dX7_releaseShared_0 : decode cX7_releaseShared 0 = .ok (.iconst 0, 1) := by decide +kernel
theorem dX7_releaseShared_1 : decode cX7_releaseShared 1 = .ok (.istore_n 2, 1) := by decide +kernel
theorem dX7_releaseShared_2 : decode cX7_releaseShared 2 = .ok (.iload_n 2, 1) := by decide +kernel
theorem dX7_releaseShared_3 : decode cX7_releaseShared 3 = .ok (.iconst 3, 1) := by decide +kernel
theorem dX7_releaseShared_4 : decode cX7_releaseShared 4 = .ok (.if_icmp .ge 44, 3) := by decide +kernel
theorem dX7_releaseShared_7 : decode cX7_releaseShared 7 = .ok (.aload_n 0, 1) := by decide +kernel
theorem dX7_releaseShared_8 : decode cX7_releaseShared 8 = .ok (.getfield 7, 3) := by decide +kernel
theorem dX7_releaseShared_11 : decode cX7_releaseShared 11 = .ok (.bipush 53, 2) := by decide +kernel
theorem dX7_releaseShared_13 : decode cX7_releaseShared 13 = .ok (.iload_n 2, 1) := by decide +kernel
theorem dX7_releaseShared_14 : decode cX7_releaseShared 14 = .ok (.iadd, 1) := by decide +kernel
theorem dX7_releaseShared_15 : decode cX7_releaseShared 15 = .ok (.aload_n 0, 1) := by decide +kernel
theorem dX7_releaseShared_16 : decode cX7_releaseShared 16 = .ok (.getfield 7, 3) := by decide +kernel
theorem dX7_releaseShared_19 : decode cX7_releaseShared 19 = .ok (.bipush 53, 2) := by decide +kernel
theorem dX7_releaseShared_21 : decode cX7_releaseShared 21 = .ok (.iload_n 2, 1) := by decide +kernel
theorem dX7_releaseShared_22 : decode cX7_releaseShared 22 = .ok (.iadd, 1) := by decide +kernel
theorem dX7_releaseShared_23 : decode cX7_releaseShared 23 = .ok (.iaload, 1) := by decide +kernel
theorem dX7_releaseShared_24 : decode cX7_releaseShared 24 = .ok (.iload_n 1, 1) := by decide +kernel
theorem dX7_releaseShared_25 : decode cX7_releaseShared 25 = .ok (.if_icmp .ne 7, 3) := by decide +kernel
theorem dX7_releaseShared_28 : decode cX7_releaseShared 28 = .ok (.iconst (-1), 1) := by decide +kernel
theorem dX7_releaseShared_29 : decode cX7_releaseShared 29 = .ok (.goto 12, 3) := by decide +kernel
theorem dX7_releaseShared_32 : decode cX7_releaseShared 32 = .ok (.aload_n 0, 1) := by decide +kernel
theorem dX7_releaseShared_33 : decode cX7_releaseShared 33 = .ok (.getfield 7, 3) := by decide +kernel
theorem dX7_releaseShared_36 : decode cX7_releaseShared 36 = .ok (.bipush 53, 2) := by decide +kernel
theorem dX7_releaseShared_38 : decode cX7_releaseShared 38 = .ok (.iload_n 2, 1) := by decide +kernel
theorem dX7_releaseShared_39 : decode cX7_releaseShared 39 = .ok (.iadd, 1) := by decide +kernel
theorem dX7_releaseShared_40 : decode cX7_releaseShared 40 = .ok (.iaload, 1) := by decide +kernel
theorem dX7_releaseShared_41 : decode cX7_releaseShared 41 = .ok (.iastore, 1) := by decide +kernel
theorem dX7_releaseShared_42 : decode cX7_releaseShared 42 = .ok (.iinc 2 1, 3) := by decide +kernel
theorem dX7_releaseShared_45 : decode cX7_releaseShared 45 = .ok (.goto (-43), 3) := by decide +kernel
theorem dX7_releaseShared_48 : decode cX7_releaseShared 48 = .ok (.return_, 1) := by decide +kernel
theorem dX7_endsBy_0 : decode cX7_endsBy 0 = .ok (.aload_n 0, 1) := by decide +kernel
theorem dX7_endsBy_1 : decode cX7_endsBy 1 = .ok (.iload_n 1, 1) := by decide +kernel
theorem dX7_endsBy_2 : decode cX7_endsBy 2 = .ok (.invokevirtual 57, 3) := by decide +kernel
theorem dX7_endsBy_5 : decode cX7_endsBy 5 = .ok (.aload_n 0, 1) := by decide +kernel
theorem dX7_endsBy_6 : decode cX7_endsBy 6 = .ok (.iload_n 1, 1) := by decide +kernel
theorem dX7_endsBy_7 : decode cX7_endsBy 7 = .ok (.invokevirtual 61, 3) := by decide +kernel
theorem dX7_endsBy_10 : decode cX7_endsBy 10 = .ok (.aload_n 0, 1) := by decide +kernel
theorem dX7_endsBy_11 : decode cX7_endsBy 11 = .ok (.iload_n 1, 1) := by decide +kernel
theorem dX7_endsBy_12 : decode cX7_endsBy 12 = .ok (.iconst 5, 1) := by decide +kernel
theorem dX7_endsBy_13 : decode cX7_endsBy 13 = .ok (.iload_n 2, 1) := by decide +kernel
theorem dX7_endsBy_14 : decode cX7_endsBy 14 = .ok (.invokevirtual 54, 3) := by decide +kernel
theorem dX7_endsBy_17 : decode cX7_endsBy 17 = .ok (.aload_n 0, 1) := by decide +kernel
theorem dX7_endsBy_18 : decode cX7_endsBy 18 = .ok (.iload_n 1, 1) := by decide +kernel
theorem dX7_endsBy_19 : decode cX7_endsBy 19 = .ok (.iload_n 3, 1) := by decide +kernel
theorem dX7_endsBy_20 : decode cX7_endsBy 20 = .ok (.invokevirtual 64, 3) := by decide +kernel
theorem dX7_endsBy_23 : decode cX7_endsBy 23 = .ok (.return_, 1) := by decide +kernel
theorem dX7_holds_0 : decode cX7_holds 0 = .ok (.aload_n 0, 1) := by decide +kernel
theorem dX7_holds_1 : decode cX7_holds 1 = .ok (.iload_n 1, 1) := by decide +kernel
theorem dX7_holds_2 : decode cX7_holds 2 = .ok (.invokevirtual 57, 3) := by decide +kernel
theorem dX7_holds_5 : decode cX7_holds 5 = .ok (.aload_n 0, 1) := by decide +kernel
theorem dX7_holds_6 : decode cX7_holds 6 = .ok (.iload_n 1, 1) := by decide +kernel
theorem dX7_holds_7 : decode cX7_holds 7 = .ok (.iconst 5, 1) := by decide +kernel
theorem dX7_holds_8 : decode cX7_holds 8 = .ok (.iconst 2, 1) := by decide +kernel
theorem dX7_holds_9 : decode cX7_holds 9 = .ok (.invokevirtual 54, 3) := by decide +kernel
theorem dX7_holds_12 : decode cX7_holds 12 = .ok (.aload_n 0, 1) := by decide +kernel
theorem dX7_holds_13 : decode cX7_holds 13 = .ok (.iload_n 1, 1) := by decide +kernel
theorem dX7_holds_14 : decode cX7_holds 14 = .ok (.iconst 2, 1) := by decide +kernel
theorem dX7_holds_15 : decode cX7_holds 15 = .ok (.invokevirtual 64, 3) := by decide +kernel
theorem dX7_holds_18 : decode cX7_holds 18 = .ok (.return_, 1) := by decide +kernel
theorem dX7_isActive_0 : decode cX7_isActive 0 = .ok (.aload_n 0, 1) := by decide +kernel
theorem dX7_isActive_1 : decode cX7_isActive 1 = .ok (.iload_n 1, 1) := by decide +kernel
theorem dX7_isActive_2 : decode cX7_isActive 2 = .ok (.iconst 5, 1) := by decide +kernel
theorem dX7_isActive_3 : decode cX7_isActive 3 = .ok (.invokevirtual 40, 3) := by decide +kernel
theorem dX7_isActive_6 : decode cX7_isActive 6 = .ok (.iconst 1, 1) := by decide +kernel
theorem dX7_isActive_7 : decode cX7_isActive 7 = .ok (.if_icmp .eq 13, 3) := by decide +kernel
theorem dX7_isActive_10 : decode cX7_isActive 10 = .ok (.aload_n 0, 1) := by decide +kernel
theorem dX7_isActive_11 : decode cX7_isActive 11 = .ok (.iload_n 1, 1) := by decide +kernel
theorem dX7_isActive_12 : decode cX7_isActive 12 = .ok (.iconst 5, 1) := by decide +kernel
theorem dX7_isActive_13 : decode cX7_isActive 13 = .ok (.invokevirtual 40, 3) := by decide +kernel
theorem dX7_isActive_16 : decode cX7_isActive 16 = .ok (.iconst 3, 1) := by decide +kernel
theorem dX7_isActive_17 : decode cX7_isActive 17 = .ok (.if_icmp .ne 7, 3) := by decide +kernel
theorem dX7_isActive_20 : decode cX7_isActive 20 = .ok (.iconst 1, 1) := by decide +kernel
theorem dX7_isActive_21 : decode cX7_isActive 21 = .ok (.goto 4, 3) := by decide +kernel
theorem dX7_isActive_24 : decode cX7_isActive 24 = .ok (.iconst 0, 1) := by decide +kernel
theorem dX7_isActive_25 : decode cX7_isActive 25 = .ok (.ireturn, 1) := by decide +kernel
theorem dX7_fail_0 : decode cX7_fail 0 = .ok (.aload_n 0, 1) := by decide +kernel
theorem dX7_fail_1 : decode cX7_fail 1 = .ok (.iload_n 1, 1) := by decide +kernel
theorem dX7_fail_2 : decode cX7_fail 2 = .ok (.invokevirtual 68, 3) := by decide +kernel
theorem dX7_fail_5 : decode cX7_fail 5 = .ok (.ifCond .ne 5, 3) := by decide +kernel
theorem dX7_fail_8 : decode cX7_fail 8 = .ok (.iconst (-1), 1) := by decide +kernel
theorem dX7_fail_9 : decode cX7_fail 9 = .ok (.ireturn, 1) := by decide +kernel
theorem dX7_fail_10 : decode cX7_fail 10 = .ok (.aload_n 0, 1) := by decide +kernel
theorem dX7_fail_11 : decode cX7_fail 11 = .ok (.iload_n 1, 1) := by decide +kernel
theorem dX7_fail_12 : decode cX7_fail 12 = .ok (.iconst 3, 1) := by decide +kernel
theorem dX7_fail_13 : decode cX7_fail 13 = .ok (.invokevirtual 51, 3) := by decide +kernel
theorem dX7_fail_16 : decode cX7_fail 16 = .ok (.iconst 1, 1) := by decide +kernel
theorem dX7_fail_17 : decode cX7_fail 17 = .ok (.if_icmp .ne 6, 3) := by decide +kernel
theorem dX7_fail_20 : decode cX7_fail 20 = .ok (.bipush (-2), 2) := by decide +kernel
theorem dX7_fail_22 : decode cX7_fail 22 = .ok (.ireturn, 1) := by decide +kernel
theorem dX7_fail_23 : decode cX7_fail 23 = .ok (.aload_n 0, 1) := by decide +kernel
theorem dX7_fail_24 : decode cX7_fail 24 = .ok (.invokevirtual 44, 3) := by decide +kernel
theorem dX7_fail_27 : decode cX7_fail 27 = .ok (.aload_n 0, 1) := by decide +kernel
theorem dX7_fail_28 : decode cX7_fail 28 = .ok (.iload_n 1, 1) := by decide +kernel
theorem dX7_fail_29 : decode cX7_fail 29 = .ok (.iconst 3, 1) := by decide +kernel
theorem dX7_fail_30 : decode cX7_fail 30 = .ok (.iconst 1, 1) := by decide +kernel
theorem dX7_fail_31 : decode cX7_fail 31 = .ok (.invokevirtual 47, 3) := by decide +kernel
theorem dX7_fail_34 : decode cX7_fail 34 = .ok (.aload_n 0, 1) := by decide +kernel
theorem dX7_fail_35 : decode cX7_fail 35 = .ok (.iload_n 1, 1) := by decide +kernel
theorem dX7_fail_36 : decode cX7_fail 36 = .ok (.iconst 2, 1) := by decide +kernel
theorem dX7_fail_37 : decode cX7_fail 37 = .ok (.invokevirtual 51, 3) := by decide +kernel
theorem dX7_fail_40 : decode cX7_fail 40 = .ok (.istore_n 2, 1) := by decide +kernel
theorem dX7_fail_41 : decode cX7_fail 41 = .ok (.iload_n 2, 1) := by decide +kernel
theorem dX7_fail_42 : decode cX7_fail 42 = .ok (.iconst (-1), 1) := by decide +kernel
theorem dX7_fail_43 : decode cX7_fail 43 = .ok (.if_icmp .eq 11, 3) := by decide +kernel
theorem dX7_fail_46 : decode cX7_fail 46 = .ok (.aload_n 0, 1) := by decide +kernel
theorem dX7_fail_47 : decode cX7_fail 47 = .ok (.iload_n 2, 1) := by decide +kernel
theorem dX7_fail_48 : decode cX7_fail 48 = .ok (.invokevirtual 72, 3) := by decide +kernel
theorem dX7_fail_51 : decode cX7_fail 51 = .ok (.ifCond .ne 6, 3) := by decide +kernel
theorem dX7_fail_54 : decode cX7_fail 54 = .ok (.bipush (-4), 2) := by decide +kernel
theorem dX7_fail_56 : decode cX7_fail 56 = .ok (.ireturn, 1) := by decide +kernel
theorem dX7_fail_57 : decode cX7_fail 57 = .ok (.aload_n 0, 1) := by decide +kernel
theorem dX7_fail_58 : decode cX7_fail 58 = .ok (.iload_n 2, 1) := by decide +kernel
theorem dX7_fail_59 : decode cX7_fail 59 = .ok (.invokevirtual 75, 3) := by decide +kernel
theorem dX7_fail_62 : decode cX7_fail 62 = .ok (.iload_n 2, 1) := by decide +kernel
theorem dX7_fail_63 : decode cX7_fail 63 = .ok (.ireturn, 1) := by decide +kernel
theorem dX7_broken_0 : decode cX7_broken 0 = .ok (.iconst 0, 1) := by decide +kernel
theorem dX7_broken_1 : decode cX7_broken 1 = .ok (.istore_n 1, 1) := by decide +kernel
theorem dX7_broken_2 : decode cX7_broken 2 = .ok (.iconst 0, 1) := by decide +kernel
theorem dX7_broken_3 : decode cX7_broken 3 = .ok (.istore_n 2, 1) := by decide +kernel
theorem dX7_broken_4 : decode cX7_broken 4 = .ok (.iload_n 2, 1) := by decide +kernel
theorem dX7_broken_5 : decode cX7_broken 5 = .ok (.aload_n 0, 1) := by decide +kernel
theorem dX7_broken_6 : decode cX7_broken 6 = .ok (.getfield 7, 3) := by decide +kernel
theorem dX7_broken_9 : decode cX7_broken 9 = .ok (.iconst 2, 1) := by decide +kernel
theorem dX7_broken_10 : decode cX7_broken 10 = .ok (.iaload, 1) := by decide +kernel
theorem dX7_broken_11 : decode cX7_broken 11 = .ok (.if_icmp .ge 18, 3) := by decide +kernel
theorem dX7_broken_14 : decode cX7_broken 14 = .ok (.iload_n 1, 1) := by decide +kernel
theorem dX7_broken_15 : decode cX7_broken 15 = .ok (.aload_n 0, 1) := by decide +kernel
theorem dX7_broken_16 : decode cX7_broken 16 = .ok (.iload_n 2, 1) := by decide +kernel
theorem dX7_broken_17 : decode cX7_broken 17 = .ok (.iconst 3, 1) := by decide +kernel
theorem dX7_broken_18 : decode cX7_broken 18 = .ok (.invokevirtual 51, 3) := by decide +kernel
theorem dX7_broken_21 : decode cX7_broken 21 = .ok (.iadd, 1) := by decide +kernel
theorem dX7_broken_22 : decode cX7_broken 22 = .ok (.istore_n 1, 1) := by decide +kernel
theorem dX7_broken_23 : decode cX7_broken 23 = .ok (.iinc 2 1, 3) := by decide +kernel
theorem dX7_broken_26 : decode cX7_broken 26 = .ok (.goto (-22), 3) := by decide +kernel
theorem dX7_broken_29 : decode cX7_broken 29 = .ok (.iload_n 1, 1) := by decide +kernel
theorem dX7_broken_30 : decode cX7_broken 30 = .ok (.ireturn, 1) := by decide +kernel
theorem dX7_repair_0 : decode cX7_repair 0 = .ok (.aload_n 0, 1) := by decide +kernel
theorem dX7_repair_1 : decode cX7_repair 1 = .ok (.iload_n 1, 1) := by decide +kernel
theorem dX7_repair_2 : decode cX7_repair 2 = .ok (.invokevirtual 68, 3) := by decide +kernel
theorem dX7_repair_5 : decode cX7_repair 5 = .ok (.ifCond .ne 5, 3) := by decide +kernel
theorem dX7_repair_8 : decode cX7_repair 8 = .ok (.iconst (-1), 1) := by decide +kernel
theorem dX7_repair_9 : decode cX7_repair 9 = .ok (.ireturn, 1) := by decide +kernel
theorem dX7_repair_10 : decode cX7_repair 10 = .ok (.aload_n 0, 1) := by decide +kernel
theorem dX7_repair_11 : decode cX7_repair 11 = .ok (.iload_n 1, 1) := by decide +kernel
theorem dX7_repair_12 : decode cX7_repair 12 = .ok (.iconst 3, 1) := by decide +kernel
theorem dX7_repair_13 : decode cX7_repair 13 = .ok (.invokevirtual 51, 3) := by decide +kernel
theorem dX7_repair_16 : decode cX7_repair 16 = .ok (.ifCond .ne 6, 3) := by decide +kernel
theorem dX7_repair_19 : decode cX7_repair 19 = .ok (.bipush (-2), 2) := by decide +kernel
theorem dX7_repair_21 : decode cX7_repair 21 = .ok (.ireturn, 1) := by decide +kernel
theorem dX7_repair_22 : decode cX7_repair 22 = .ok (.aload_n 0, 1) := by decide +kernel
theorem dX7_repair_23 : decode cX7_repair 23 = .ok (.invokevirtual 44, 3) := by decide +kernel
theorem dX7_repair_26 : decode cX7_repair 26 = .ok (.aload_n 0, 1) := by decide +kernel
theorem dX7_repair_27 : decode cX7_repair 27 = .ok (.iload_n 1, 1) := by decide +kernel
theorem dX7_repair_28 : decode cX7_repair 28 = .ok (.iconst 3, 1) := by decide +kernel
theorem dX7_repair_29 : decode cX7_repair 29 = .ok (.iconst 0, 1) := by decide +kernel
theorem dX7_repair_30 : decode cX7_repair 30 = .ok (.invokevirtual 47, 3) := by decide +kernel
theorem dX7_repair_33 : decode cX7_repair 33 = .ok (.aload_n 0, 1) := by decide +kernel
theorem dX7_repair_34 : decode cX7_repair 34 = .ok (.invokevirtual 78, 3) := by decide +kernel
theorem dX7_repair_37 : decode cX7_repair 37 = .ok (.ireturn, 1) := by decide +kernel
theorem dX7_unitInfo_0 : decode cX7_unitInfo 0 = .ok (.aload_n 0, 1) := by decide +kernel
theorem dX7_unitInfo_1 : decode cX7_unitInfo 1 = .ok (.iload_n 1, 1) := by decide +kernel
theorem dX7_unitInfo_2 : decode cX7_unitInfo 2 = .ok (.invokevirtual 68, 3) := by decide +kernel
theorem dX7_unitInfo_5 : decode cX7_unitInfo 5 = .ok (.ifCond .eq 13, 3) := by decide +kernel
theorem dX7_unitInfo_8 : decode cX7_unitInfo 8 = .ok (.iload_n 2, 1) := by decide +kernel
theorem dX7_unitInfo_9 : decode cX7_unitInfo 9 = .ok (.iconst 0, 1) := by decide +kernel
theorem dX7_unitInfo_10 : decode cX7_unitInfo 10 = .ok (.bipush 6, 2) := by decide +kernel
theorem dX7_unitInfo_12 : decode cX7_unitInfo 12 = .ok (.invokestatic 36, 3) := by decide +kernel
theorem dX7_unitInfo_15 : decode cX7_unitInfo 15 = .ok (.ifCond .ne 5, 3) := by decide +kernel
theorem dX7_unitInfo_18 : decode cX7_unitInfo 18 = .ok (.iconst (-1), 1) := by decide +kernel
theorem dX7_unitInfo_19 : decode cX7_unitInfo 19 = .ok (.ireturn, 1) := by decide +kernel
theorem dX7_unitInfo_20 : decode cX7_unitInfo 20 = .ok (.iload_n 2, 1) := by decide +kernel
theorem dX7_unitInfo_21 : decode cX7_unitInfo 21 = .ok (.iconst 2, 1) := by decide +kernel
theorem dX7_unitInfo_22 : decode cX7_unitInfo 22 = .ok (.if_icmp .ne 16, 3) := by decide +kernel
theorem dX7_unitInfo_25 : decode cX7_unitInfo 25 = .ok (.aload_n 0, 1) := by decide +kernel
theorem dX7_unitInfo_26 : decode cX7_unitInfo 26 = .ok (.iload_n 1, 1) := by decide +kernel
theorem dX7_unitInfo_27 : decode cX7_unitInfo 27 = .ok (.iconst 2, 1) := by decide +kernel
theorem dX7_unitInfo_28 : decode cX7_unitInfo 28 = .ok (.invokevirtual 51, 3) := by decide +kernel
theorem dX7_unitInfo_31 : decode cX7_unitInfo 31 = .ok (.iconst (-1), 1) := by decide +kernel
theorem dX7_unitInfo_32 : decode cX7_unitInfo 32 = .ok (.if_icmp .ne 6, 3) := by decide +kernel
theorem dX7_unitInfo_35 : decode cX7_unitInfo 35 = .ok (.bipush (-4), 2) := by decide +kernel
theorem dX7_unitInfo_37 : decode cX7_unitInfo 37 = .ok (.ireturn, 1) := by decide +kernel
theorem dX7_unitInfo_38 : decode cX7_unitInfo 38 = .ok (.iload_n 2, 1) := by decide +kernel
theorem dX7_unitInfo_39 : decode cX7_unitInfo 39 = .ok (.bipush 6, 2) := by decide +kernel
theorem dX7_unitInfo_41 : decode cX7_unitInfo 41 = .ok (.if_icmp .ge 12, 3) := by decide +kernel
theorem dX7_unitInfo_44 : decode cX7_unitInfo 44 = .ok (.aload_n 0, 1) := by decide +kernel
theorem dX7_unitInfo_45 : decode cX7_unitInfo 45 = .ok (.iload_n 1, 1) := by decide +kernel
theorem dX7_unitInfo_46 : decode cX7_unitInfo 46 = .ok (.iload_n 2, 1) := by decide +kernel
theorem dX7_unitInfo_47 : decode cX7_unitInfo 47 = .ok (.invokevirtual 51, 3) := by decide +kernel
theorem dX7_unitInfo_50 : decode cX7_unitInfo 50 = .ok (.goto 16, 3) := by decide +kernel
theorem dX7_unitInfo_53 : decode cX7_unitInfo 53 = .ok (.aload_n 0, 1) := by decide +kernel
theorem dX7_unitInfo_54 : decode cX7_unitInfo 54 = .ok (.iload_n 1, 1) := by decide +kernel
theorem dX7_unitInfo_55 : decode cX7_unitInfo 55 = .ok (.invokevirtual 82, 3) := by decide +kernel
theorem dX7_unitInfo_58 : decode cX7_unitInfo 58 = .ok (.ifCond .eq 7, 3) := by decide +kernel
theorem dX7_unitInfo_61 : decode cX7_unitInfo 61 = .ok (.iconst 1, 1) := by decide +kernel
theorem dX7_unitInfo_62 : decode cX7_unitInfo 62 = .ok (.goto 4, 3) := by decide +kernel
theorem dX7_unitInfo_65 : decode cX7_unitInfo 65 = .ok (.iconst 0, 1) := by decide +kernel
theorem dX7_unitInfo_66 : decode cX7_unitInfo 66 = .ok (.ireturn, 1) := by decide +kernel
theorem dX7_shared_0 : decode cX7_shared 0 = .ok (.iload_n 1, 1) := by decide +kernel
theorem dX7_shared_1 : decode cX7_shared 1 = .ok (.iconst 0, 1) := by decide +kernel
theorem dX7_shared_2 : decode cX7_shared 2 = .ok (.iconst 2, 1) := by decide +kernel
theorem dX7_shared_3 : decode cX7_shared 3 = .ok (.invokestatic 36, 3) := by decide +kernel
theorem dX7_shared_6 : decode cX7_shared 6 = .ok (.ifCond .ne 5, 3) := by decide +kernel
theorem dX7_shared_9 : decode cX7_shared 9 = .ok (.iconst (-1), 1) := by decide +kernel
theorem dX7_shared_10 : decode cX7_shared 10 = .ok (.ireturn, 1) := by decide +kernel
theorem dX7_shared_11 : decode cX7_shared 11 = .ok (.aload_n 0, 1) := by decide +kernel
theorem dX7_shared_12 : decode cX7_shared 12 = .ok (.getfield 7, 3) := by decide +kernel
theorem dX7_shared_15 : decode cX7_shared 15 = .ok (.bipush 53, 2) := by decide +kernel
theorem dX7_shared_17 : decode cX7_shared 17 = .ok (.iload_n 1, 1) := by decide +kernel
theorem dX7_shared_18 : decode cX7_shared 18 = .ok (.iadd, 1) := by decide +kernel
theorem dX7_shared_19 : decode cX7_shared 19 = .ok (.iaload, 1) := by decide +kernel
theorem dX7_shared_20 : decode cX7_shared 20 = .ok (.iconst (-1), 1) := by decide +kernel
theorem dX7_shared_21 : decode cX7_shared 21 = .ok (.if_icmp .ne 8, 3) := by decide +kernel
theorem dX7_shared_24 : decode cX7_shared 24 = .ok (.bipush (-4), 2) := by decide +kernel
theorem dX7_shared_26 : decode cX7_shared 26 = .ok (.goto 12, 3) := by decide +kernel
theorem dX7_shared_29 : decode cX7_shared 29 = .ok (.aload_n 0, 1) := by decide +kernel
theorem dX7_shared_30 : decode cX7_shared 30 = .ok (.getfield 7, 3) := by decide +kernel
theorem dX7_shared_33 : decode cX7_shared 33 = .ok (.bipush 53, 2) := by decide +kernel
theorem dX7_shared_35 : decode cX7_shared 35 = .ok (.iload_n 1, 1) := by decide +kernel
theorem dX7_shared_36 : decode cX7_shared 36 = .ok (.iadd, 1) := by decide +kernel
theorem dX7_shared_37 : decode cX7_shared 37 = .ok (.iaload, 1) := by decide +kernel
theorem dX7_shared_38 : decode cX7_shared 38 = .ok (.ireturn, 1) := by decide +kernel
theorem dX7_setCleaning_0 : decode cX7_setCleaning 0 = .ok (.iload_n 1, 1) := by decide +kernel
theorem dX7_setCleaning_1 : decode cX7_setCleaning 1 = .ok (.iconst 0, 1) := by decide +kernel
theorem dX7_setCleaning_2 : decode cX7_setCleaning 2 = .ok (.bipush 30, 2) := by decide +kernel
theorem dX7_setCleaning_4 : decode cX7_setCleaning 4 = .ok (.invokestatic 36, 3) := by decide +kernel
theorem dX7_setCleaning_7 : decode cX7_setCleaning 7 = .ok (.ifCond .ne 5, 3) := by decide +kernel
theorem dX7_setCleaning_10 : decode cX7_setCleaning 10 = .ok (.iconst (-1), 1) := by decide +kernel
theorem dX7_setCleaning_11 : decode cX7_setCleaning 11 = .ok (.ireturn, 1) := by decide +kernel
theorem dX7_setCleaning_12 : decode cX7_setCleaning 12 = .ok (.aload_n 0, 1) := by decide +kernel
theorem dX7_setCleaning_13 : decode cX7_setCleaning 13 = .ok (.invokevirtual 44, 3) := by decide +kernel
theorem dX7_setCleaning_16 : decode cX7_setCleaning 16 = .ok (.aload_n 0, 1) := by decide +kernel
theorem dX7_setCleaning_17 : decode cX7_setCleaning 17 = .ok (.getfield 7, 3) := by decide +kernel
theorem dX7_setCleaning_20 : decode cX7_setCleaning 20 = .ok (.iconst 0, 1) := by decide +kernel
theorem dX7_setCleaning_21 : decode cX7_setCleaning 21 = .ok (.iaload, 1) := by decide +kernel
theorem dX7_setCleaning_22 : decode cX7_setCleaning 22 = .ok (.istore_n 2, 1) := by decide +kernel
theorem dX7_setCleaning_23 : decode cX7_setCleaning 23 = .ok (.aload_n 0, 1) := by decide +kernel
theorem dX7_setCleaning_24 : decode cX7_setCleaning 24 = .ok (.getfield 7, 3) := by decide +kernel
theorem dX7_setCleaning_27 : decode cX7_setCleaning 27 = .ok (.iconst 0, 1) := by decide +kernel
theorem dX7_setCleaning_28 : decode cX7_setCleaning 28 = .ok (.iload_n 1, 1) := by decide +kernel
theorem dX7_setCleaning_29 : decode cX7_setCleaning 29 = .ok (.iastore, 1) := by decide +kernel
theorem dX7_setCleaning_30 : decode cX7_setCleaning 30 = .ok (.iload_n 2, 1) := by decide +kernel
theorem dX7_setCleaning_31 : decode cX7_setCleaning 31 = .ok (.ireturn, 1) := by decide +kernel
theorem dX7_kindOf_0 : decode cX7_kindOf 0 = .ok (.iload_n 0, 1) := by decide +kernel
theorem dX7_kindOf_1 : decode cX7_kindOf 1 = .ok (.iconst 3, 1) := by decide +kernel
theorem dX7_kindOf_2 : decode cX7_kindOf 2 = .ok (.iand, 1) := by decide +kernel
theorem dX7_kindOf_3 : decode cX7_kindOf 3 = .ok (.ireturn, 1) := by decide +kernel
theorem dX7_durationOf_0 : decode cX7_durationOf 0 = .ok (.iload_n 0, 1) := by decide +kernel
theorem dX7_durationOf_1 : decode cX7_durationOf 1 = .ok (.iconst 2, 1) := by decide +kernel
theorem dX7_durationOf_2 : decode cX7_durationOf 2 = .ok (.ishr, 1) := by decide +kernel
theorem dX7_durationOf_3 : decode cX7_durationOf 3 = .ok (.bipush 127, 2) := by decide +kernel
theorem dX7_durationOf_5 : decode cX7_durationOf 5 = .ok (.iand, 1) := by decide +kernel
theorem dX7_durationOf_6 : decode cX7_durationOf 6 = .ok (.ireturn, 1) := by decide +kernel
theorem dX7_sharedOf_0 : decode cX7_sharedOf 0 = .ok (.iload_n 0, 1) := by decide +kernel
theorem dX7_sharedOf_1 : decode cX7_sharedOf 1 = .ok (.bipush 9, 2) := by decide +kernel
theorem dX7_sharedOf_3 : decode cX7_sharedOf 3 = .ok (.ishr, 1) := by decide +kernel
theorem dX7_sharedOf_4 : decode cX7_sharedOf 4 = .ok (.iconst 3, 1) := by decide +kernel
theorem dX7_sharedOf_5 : decode cX7_sharedOf 5 = .ok (.iand, 1) := by decide +kernel
theorem dX7_sharedOf_6 : decode cX7_sharedOf 6 = .ok (.iconst 1, 1) := by decide +kernel
theorem dX7_sharedOf_7 : decode cX7_sharedOf 7 = .ok (.isub, 1) := by decide +kernel
theorem dX7_sharedOf_8 : decode cX7_sharedOf 8 = .ok (.ireturn, 1) := by decide +kernel
theorem dX7_yieldOf_0 : decode cX7_yieldOf 0 = .ok (.iload_n 0, 1) := by decide +kernel
theorem dX7_yieldOf_1 : decode cX7_yieldOf 1 = .ok (.bipush 11, 2) := by decide +kernel
theorem dX7_yieldOf_3 : decode cX7_yieldOf 3 = .ok (.ishr, 1) := by decide +kernel
theorem dX7_yieldOf_4 : decode cX7_yieldOf 4 = .ok (.bipush 127, 2) := by decide +kernel
theorem dX7_yieldOf_6 : decode cX7_yieldOf 6 = .ok (.iand, 1) := by decide +kernel
theorem dX7_yieldOf_7 : decode cX7_yieldOf 7 = .ok (.ireturn, 1) := by decide +kernel
theorem dX7_markOf_0 : decode cX7_markOf 0 = .ok (.iload_n 0, 1) := by decide +kernel
theorem dX7_markOf_1 : decode cX7_markOf 1 = .ok (.bipush 18, 2) := by decide +kernel
theorem dX7_markOf_3 : decode cX7_markOf 3 = .ok (.ishr, 1) := by decide +kernel
theorem dX7_markOf_4 : decode cX7_markOf 4 = .ok (.iconst 1, 1) := by decide +kernel
theorem dX7_markOf_5 : decode cX7_markOf 5 = .ok (.iand, 1) := by decide +kernel
theorem dX7_markOf_6 : decode cX7_markOf 6 = .ok (.ireturn, 1) := by decide +kernel
theorem dX7_phasesOf_0 : decode cX7_phasesOf 0 = .ok (.aload_n 0, 1) := by decide +kernel
theorem dX7_phasesOf_1 : decode cX7_phasesOf 1 = .ok (.getfield 7, 3) := by decide +kernel
theorem dX7_phasesOf_4 : decode cX7_phasesOf 4 = .ok (.bipush 62, 2) := by decide +kernel
theorem dX7_phasesOf_6 : decode cX7_phasesOf 6 = .ok (.bipush 9, 2) := by decide +kernel
theorem dX7_phasesOf_8 : decode cX7_phasesOf 8 = .ok (.iload_n 1, 1) := by decide +kernel
theorem dX7_phasesOf_9 : decode cX7_phasesOf 9 = .ok (.imul, 1) := by decide +kernel
theorem dX7_phasesOf_10 : decode cX7_phasesOf 10 = .ok (.iadd, 1) := by decide +kernel
theorem dX7_phasesOf_11 : decode cX7_phasesOf 11 = .ok (.iload_n 2, 1) := by decide +kernel
theorem dX7_phasesOf_12 : decode cX7_phasesOf 12 = .ok (.iadd, 1) := by decide +kernel
theorem dX7_phasesOf_13 : decode cX7_phasesOf 13 = .ok (.iconst 1, 1) := by decide +kernel
theorem dX7_phasesOf_14 : decode cX7_phasesOf 14 = .ok (.isub, 1) := by decide +kernel
theorem dX7_phasesOf_15 : decode cX7_phasesOf 15 = .ok (.iaload, 1) := by decide +kernel
theorem dX7_phasesOf_16 : decode cX7_phasesOf 16 = .ok (.ireturn, 1) := by decide +kernel
theorem dX7_phaseIn_0 : decode cX7_phaseIn 0 = .ok (.aload_n 0, 1) := by decide +kernel
theorem dX7_phaseIn_1 : decode cX7_phaseIn 1 = .ok (.getfield 7, 3) := by decide +kernel
theorem dX7_phaseIn_4 : decode cX7_phaseIn 4 = .ok (.bipush 116, 2) := by decide +kernel
theorem dX7_phaseIn_6 : decode cX7_phaseIn 6 = .ok (.bipush 8, 2) := by decide +kernel
theorem dX7_phaseIn_8 : decode cX7_phaseIn 8 = .ok (.bipush 9, 2) := by decide +kernel
theorem dX7_phaseIn_10 : decode cX7_phaseIn 10 = .ok (.iload_n 1, 1) := by decide +kernel
theorem dX7_phaseIn_11 : decode cX7_phaseIn 11 = .ok (.imul, 1) := by decide +kernel
theorem dX7_phaseIn_12 : decode cX7_phaseIn 12 = .ok (.iload_n 2, 1) := by decide +kernel
theorem dX7_phaseIn_13 : decode cX7_phaseIn 13 = .ok (.iadd, 1) := by decide +kernel
theorem dX7_phaseIn_14 : decode cX7_phaseIn 14 = .ok (.iconst 1, 1) := by decide +kernel
theorem dX7_phaseIn_15 : decode cX7_phaseIn 15 = .ok (.isub, 1) := by decide +kernel
theorem dX7_phaseIn_16 : decode cX7_phaseIn 16 = .ok (.imul, 1) := by decide +kernel
theorem dX7_phaseIn_17 : decode cX7_phaseIn 17 = .ok (.iadd, 1) := by decide +kernel
theorem dX7_phaseIn_18 : decode cX7_phaseIn 18 = .ok (.iload_n 3, 1) := by decide +kernel
theorem dX7_phaseIn_19 : decode cX7_phaseIn 19 = .ok (.iadd, 1) := by decide +kernel
theorem dX7_phaseIn_20 : decode cX7_phaseIn 20 = .ok (.iaload, 1) := by decide +kernel
theorem dX7_phaseIn_21 : decode cX7_phaseIn 21 = .ok (.ireturn, 1) := by decide +kernel
theorem dX7_phaseAt_0 : decode cX7_phaseAt 0 = .ok (.aload_n 0, 1) := by decide +kernel
theorem dX7_phaseAt_1 : decode cX7_phaseAt 1 = .ok (.aload_n 0, 1) := by decide +kernel
theorem dX7_phaseAt_2 : decode cX7_phaseAt 2 = .ok (.iload_n 1, 1) := by decide +kernel
theorem dX7_phaseAt_3 : decode cX7_phaseAt 3 = .ok (.iconst 0, 1) := by decide +kernel
theorem dX7_phaseAt_4 : decode cX7_phaseAt 4 = .ok (.invokevirtual 40, 3) := by decide +kernel
theorem dX7_phaseAt_7 : decode cX7_phaseAt 7 = .ok (.aload_n 0, 1) := by decide +kernel
theorem dX7_phaseAt_8 : decode cX7_phaseAt 8 = .ok (.iload_n 1, 1) := by decide +kernel
theorem dX7_phaseAt_9 : decode cX7_phaseAt 9 = .ok (.iconst 1, 1) := by decide +kernel
theorem dX7_phaseAt_10 : decode cX7_phaseAt 10 = .ok (.invokevirtual 40, 3) := by decide +kernel
theorem dX7_phaseAt_13 : decode cX7_phaseAt 13 = .ok (.iload_n 2, 1) := by decide +kernel
theorem dX7_phaseAt_14 : decode cX7_phaseAt 14 = .ok (.invokevirtual 85, 3) := by decide +kernel
theorem dX7_phaseAt_17 : decode cX7_phaseAt 17 = .ok (.ireturn, 1) := by decide +kernel
theorem dX7_phaseNow_0 : decode cX7_phaseNow 0 = .ok (.aload_n 0, 1) := by decide +kernel
theorem dX7_phaseNow_1 : decode cX7_phaseNow 1 = .ok (.iload_n 1, 1) := by decide +kernel
theorem dX7_phaseNow_2 : decode cX7_phaseNow 2 = .ok (.aload_n 0, 1) := by decide +kernel
theorem dX7_phaseNow_3 : decode cX7_phaseNow 3 = .ok (.iload_n 1, 1) := by decide +kernel
theorem dX7_phaseNow_4 : decode cX7_phaseNow 4 = .ok (.bipush 6, 2) := by decide +kernel
theorem dX7_phaseNow_6 : decode cX7_phaseNow 6 = .ok (.invokevirtual 40, 3) := by decide +kernel
theorem dX7_phaseNow_9 : decode cX7_phaseNow 9 = .ok (.invokevirtual 89, 3) := by decide +kernel
theorem dX7_phaseNow_12 : decode cX7_phaseNow 12 = .ok (.ireturn, 1) := by decide +kernel
theorem dX7_isRecipe_0 : decode cX7_isRecipe 0 = .ok (.iload_n 0, 1) := by decide +kernel
theorem dX7_isRecipe_1 : decode cX7_isRecipe 1 = .ok (.iconst 0, 1) := by decide +kernel
theorem dX7_isRecipe_2 : decode cX7_isRecipe 2 = .ok (.iconst 5, 1) := by decide +kernel
theorem dX7_isRecipe_3 : decode cX7_isRecipe 3 = .ok (.invokestatic 36, 3) := by decide +kernel
theorem dX7_isRecipe_6 : decode cX7_isRecipe 6 = .ok (.ireturn, 1) := by decide +kernel
theorem dX7_here_0 : decode cX7_here 0 = .ok (.aload_n 0, 1) := by decide +kernel
theorem dX7_here_1 : decode cX7_here 1 = .ok (.getfield 92, 3) := by decide +kernel
theorem dX7_here_4 : decode cX7_here 4 = .ok (.aload_n 0, 1) := by decide +kernel
theorem dX7_here_5 : decode cX7_here 5 = .ok (.getfield 95, 3) := by decide +kernel
theorem dX7_here_8 : decode cX7_here 8 = .ok (.if_icmp .ge 15, 3) := by decide +kernel
theorem dX7_here_11 : decode cX7_here 11 = .ok (.aload_n 0, 1) := by decide +kernel
theorem dX7_here_12 : decode cX7_here 12 = .ok (.getfield 19, 3) := by decide +kernel
theorem dX7_here_15 : decode cX7_here 15 = .ok (.aload_n 0, 1) := by decide +kernel
theorem dX7_here_16 : decode cX7_here 16 = .ok (.getfield 92, 3) := by decide +kernel
theorem dX7_here_19 : decode cX7_here 19 = .ok (.iaload, 1) := by decide +kernel
theorem dX7_here_20 : decode cX7_here 20 = .ok (.goto 4, 3) := by decide +kernel
theorem dX7_here_23 : decode cX7_here 23 = .ok (.iconst (-1), 1) := by decide +kernel
theorem dX7_here_24 : decode cX7_here 24 = .ok (.ireturn, 1) := by decide +kernel
theorem dX7_isFault_0 : decode cX7_isFault 0 = .ok (.aload_n 0, 1) := by decide +kernel
theorem dX7_isFault_1 : decode cX7_isFault 1 = .ok (.aload_n 0, 1) := by decide +kernel
theorem dX7_isFault_2 : decode cX7_isFault 2 = .ok (.getfield 92, 3) := by decide +kernel
theorem dX7_isFault_5 : decode cX7_isFault 5 = .ok (.aload_n 0, 1) := by decide +kernel
theorem dX7_isFault_6 : decode cX7_isFault 6 = .ok (.getfield 95, 3) := by decide +kernel
theorem dX7_isFault_9 : decode cX7_isFault 9 = .ok (.if_icmp .ne 7, 3) := by decide +kernel
theorem dX7_isFault_12 : decode cX7_isFault 12 = .ok (.iconst 3, 1) := by decide +kernel
theorem dX7_isFault_13 : decode cX7_isFault 13 = .ok (.goto 4, 3) := by decide +kernel
theorem dX7_isFault_16 : decode cX7_isFault 16 = .ok (.iconst 1, 1) := by decide +kernel
theorem dX7_isFault_17 : decode cX7_isFault 17 = .ok (.putfield 98, 3) := by decide +kernel
theorem dX7_isFault_20 : decode cX7_isFault 20 = .ok (.iconst 0, 1) := by decide +kernel
theorem dX7_isFault_21 : decode cX7_isFault 21 = .ok (.ireturn, 1) := by decide +kernel
theorem dX7_readNumber_0 : decode cX7_readNumber 0 = .ok (.aload_n 0, 1) := by decide +kernel
theorem dX7_readNumber_1 : decode cX7_readNumber 1 = .ok (.getfield 92, 3) := by decide +kernel
theorem dX7_readNumber_4 : decode cX7_readNumber 4 = .ok (.istore_n 3, 1) := by decide +kernel
theorem dX7_readNumber_5 : decode cX7_readNumber 5 = .ok (.aload_n 0, 1) := by decide +kernel
theorem dX7_readNumber_6 : decode cX7_readNumber 6 = .ok (.iconst 0, 1) := by decide +kernel
theorem dX7_readNumber_7 : decode cX7_readNumber 7 = .ok (.putfield 101, 3) := by decide +kernel
theorem dX7_readNumber_10 : decode cX7_readNumber 10 = .ok (.aload_n 0, 1) := by decide +kernel
theorem dX7_readNumber_11 : decode cX7_readNumber 11 = .ok (.getfield 92, 3) := by decide +kernel
theorem dX7_readNumber_14 : decode cX7_readNumber 14 = .ok (.iload_n 3, 1) := by decide +kernel
theorem dX7_readNumber_15 : decode cX7_readNumber 15 = .ok (.iload_n 1, 1) := by decide +kernel
theorem dX7_readNumber_16 : decode cX7_readNumber 16 = .ok (.iadd, 1) := by decide +kernel
theorem dX7_readNumber_17 : decode cX7_readNumber 17 = .ok (.if_icmp .ge 49, 3) := by decide +kernel
theorem dX7_readNumber_20 : decode cX7_readNumber 20 = .ok (.aload_n 0, 1) := by decide +kernel
theorem dX7_readNumber_21 : decode cX7_readNumber 21 = .ok (.invokevirtual 104, 3) := by decide +kernel
theorem dX7_readNumber_24 : decode cX7_readNumber 24 = .ok (.bipush 48, 2) := by decide +kernel
theorem dX7_readNumber_26 : decode cX7_readNumber 26 = .ok (.bipush 57, 2) := by decide +kernel
theorem dX7_readNumber_28 : decode cX7_readNumber 28 = .ok (.invokestatic 36, 3) := by decide +kernel
theorem dX7_readNumber_31 : decode cX7_readNumber 31 = .ok (.ifCond .eq 35, 3) := by decide +kernel
theorem dX7_readNumber_34 : decode cX7_readNumber 34 = .ok (.aload_n 0, 1) := by decide +kernel
theorem dX7_readNumber_35 : decode cX7_readNumber 35 = .ok (.bipush 10, 2) := by decide +kernel
theorem dX7_readNumber_37 : decode cX7_readNumber 37 = .ok (.aload_n 0, 1) := by decide +kernel
theorem dX7_readNumber_38 : decode cX7_readNumber 38 = .ok (.getfield 101, 3) := by decide +kernel
theorem dX7_readNumber_41 : decode cX7_readNumber 41 = .ok (.imul, 1) := by decide +kernel
theorem dX7_readNumber_42 : decode cX7_readNumber 42 = .ok (.aload_n 0, 1) := by decide +kernel
theorem dX7_readNumber_43 : decode cX7_readNumber 43 = .ok (.invokevirtual 104, 3) := by decide +kernel
theorem dX7_readNumber_46 : decode cX7_readNumber 46 = .ok (.iadd, 1) := by decide +kernel
theorem dX7_readNumber_47 : decode cX7_readNumber 47 = .ok (.bipush 48, 2) := by decide +kernel
theorem dX7_readNumber_49 : decode cX7_readNumber 49 = .ok (.isub, 1) := by decide +kernel
theorem dX7_readNumber_50 : decode cX7_readNumber 50 = .ok (.putfield 101, 3) := by decide +kernel
theorem dX7_readNumber_53 : decode cX7_readNumber 53 = .ok (.aload_n 0, 1) := by decide +kernel
theorem dX7_readNumber_54 : decode cX7_readNumber 54 = .ok (.dup, 1) := by decide +kernel
theorem dX7_readNumber_55 : decode cX7_readNumber 55 = .ok (.getfield 92, 3) := by decide +kernel
theorem dX7_readNumber_58 : decode cX7_readNumber 58 = .ok (.iconst 1, 1) := by decide +kernel
theorem dX7_readNumber_59 : decode cX7_readNumber 59 = .ok (.iadd, 1) := by decide +kernel
theorem dX7_readNumber_60 : decode cX7_readNumber 60 = .ok (.putfield 92, 3) := by decide +kernel
theorem dX7_readNumber_63 : decode cX7_readNumber 63 = .ok (.goto (-53), 3) := by decide +kernel
theorem dX7_readNumber_66 : decode cX7_readNumber 66 = .ok (.aload_n 0, 1) := by decide +kernel
theorem dX7_readNumber_67 : decode cX7_readNumber 67 = .ok (.getfield 92, 3) := by decide +kernel
theorem dX7_readNumber_70 : decode cX7_readNumber 70 = .ok (.iload_n 3, 1) := by decide +kernel
theorem dX7_readNumber_71 : decode cX7_readNumber 71 = .ok (.if_icmp .ne 8, 3) := by decide +kernel
theorem dX7_readNumber_74 : decode cX7_readNumber 74 = .ok (.aload_n 0, 1) := by decide +kernel
theorem dX7_readNumber_75 : decode cX7_readNumber 75 = .ok (.invokevirtual 107, 3) := by decide +kernel
theorem dX7_readNumber_78 : decode cX7_readNumber 78 = .ok (.ireturn, 1) := by decide +kernel
theorem dX7_readNumber_79 : decode cX7_readNumber 79 = .ok (.aload_n 0, 1) := by decide +kernel
theorem dX7_readNumber_80 : decode cX7_readNumber 80 = .ok (.getfield 101, 3) := by decide +kernel
theorem dX7_readNumber_83 : decode cX7_readNumber 83 = .ok (.iconst 1, 1) := by decide +kernel
theorem dX7_readNumber_84 : decode cX7_readNumber 84 = .ok (.iload_n 2, 1) := by decide +kernel
theorem dX7_readNumber_85 : decode cX7_readNumber 85 = .ok (.invokestatic 36, 3) := by decide +kernel
theorem dX7_readNumber_88 : decode cX7_readNumber 88 = .ok (.ifCond .ne 15, 3) := by decide +kernel
theorem dX7_readNumber_91 : decode cX7_readNumber 91 = .ok (.aload_n 0, 1) := by decide +kernel
theorem dX7_readNumber_92 : decode cX7_readNumber 92 = .ok (.iload_n 3, 1) := by decide +kernel
theorem dX7_readNumber_93 : decode cX7_readNumber 93 = .ok (.putfield 92, 3) := by decide +kernel
theorem dX7_readNumber_96 : decode cX7_readNumber 96 = .ok (.aload_n 0, 1) := by decide +kernel
theorem dX7_readNumber_97 : decode cX7_readNumber 97 = .ok (.iconst 2, 1) := by decide +kernel
theorem dX7_readNumber_98 : decode cX7_readNumber 98 = .ok (.putfield 98, 3) := by decide +kernel
theorem dX7_readNumber_101 : decode cX7_readNumber 101 = .ok (.iconst 0, 1) := by decide +kernel
theorem dX7_readNumber_102 : decode cX7_readNumber 102 = .ok (.ireturn, 1) := by decide +kernel
theorem dX7_readNumber_103 : decode cX7_readNumber 103 = .ok (.aload_n 0, 1) := by decide +kernel
theorem dX7_readNumber_104 : decode cX7_readNumber 104 = .ok (.invokevirtual 104, 3) := by decide +kernel
theorem dX7_readNumber_107 : decode cX7_readNumber 107 = .ok (.bipush 48, 2) := by decide +kernel
theorem dX7_readNumber_109 : decode cX7_readNumber 109 = .ok (.bipush 57, 2) := by decide +kernel
theorem dX7_readNumber_111 : decode cX7_readNumber 111 = .ok (.invokestatic 36, 3) := by decide +kernel
theorem dX7_readNumber_114 : decode cX7_readNumber 114 = .ok (.ifCond .eq 10, 3) := by decide +kernel
theorem dX7_readNumber_117 : decode cX7_readNumber 117 = .ok (.aload_n 0, 1) := by decide +kernel
theorem dX7_readNumber_118 : decode cX7_readNumber 118 = .ok (.invokevirtual 107, 3) := by decide +kernel
theorem dX7_readNumber_121 : decode cX7_readNumber 121 = .ok (.ifCond .eq 7, 3) := by decide +kernel
theorem dX7_readNumber_124 : decode cX7_readNumber 124 = .ok (.iconst 1, 1) := by decide +kernel
theorem dX7_readNumber_125 : decode cX7_readNumber 125 = .ok (.goto 4, 3) := by decide +kernel
theorem dX7_readNumber_128 : decode cX7_readNumber 128 = .ok (.iconst 0, 1) := by decide +kernel
theorem dX7_readNumber_129 : decode cX7_readNumber 129 = .ok (.ireturn, 1) := by decide +kernel
theorem dX7_kindBy_0 : decode cX7_kindBy 0 = .ok (.iload_n 0, 1) := by decide +kernel
theorem dX7_kindBy_1 : decode cX7_kindBy 1 = .ok (.bipush 109, 2) := by decide +kernel
theorem dX7_kindBy_3 : decode cX7_kindBy 3 = .ok (.if_icmp .ne 7, 3) := by decide +kernel
theorem dX7_kindBy_6 : decode cX7_kindBy 6 = .ok (.iconst 0, 1) := by decide +kernel
theorem dX7_kindBy_7 : decode cX7_kindBy 7 = .ok (.goto 34, 3) := by decide +kernel
theorem dX7_kindBy_10 : decode cX7_kindBy 10 = .ok (.iload_n 0, 1) := by decide +kernel
theorem dX7_kindBy_11 : decode cX7_kindBy 11 = .ok (.bipush 114, 2) := by decide +kernel
theorem dX7_kindBy_13 : decode cX7_kindBy 13 = .ok (.if_icmp .ne 7, 3) := by decide +kernel
theorem dX7_kindBy_16 : decode cX7_kindBy 16 = .ok (.iconst 1, 1) := by decide +kernel
theorem dX7_kindBy_17 : decode cX7_kindBy 17 = .ok (.goto 24, 3) := by decide +kernel
theorem dX7_kindBy_20 : decode cX7_kindBy 20 = .ok (.iload_n 0, 1) := by decide +kernel
theorem dX7_kindBy_21 : decode cX7_kindBy 21 = .ok (.bipush 102, 2) := by decide +kernel
theorem dX7_kindBy_23 : decode cX7_kindBy 23 = .ok (.if_icmp .ne 7, 3) := by decide +kernel
theorem dX7_kindBy_26 : decode cX7_kindBy 26 = .ok (.iconst 2, 1) := by decide +kernel
theorem dX7_kindBy_27 : decode cX7_kindBy 27 = .ok (.goto 14, 3) := by decide +kernel
theorem dX7_kindBy_30 : decode cX7_kindBy 30 = .ok (.iload_n 0, 1) := by decide +kernel
theorem dX7_kindBy_31 : decode cX7_kindBy 31 = .ok (.bipush 112, 2) := by decide +kernel
theorem dX7_kindBy_33 : decode cX7_kindBy 33 = .ok (.if_icmp .ne 7, 3) := by decide +kernel
theorem dX7_kindBy_36 : decode cX7_kindBy 36 = .ok (.iconst 3, 1) := by decide +kernel
theorem dX7_kindBy_37 : decode cX7_kindBy 37 = .ok (.goto 4, 3) := by decide +kernel
theorem dX7_kindBy_40 : decode cX7_kindBy 40 = .ok (.iconst (-1), 1) := by decide +kernel
theorem dX7_kindBy_41 : decode cX7_kindBy 41 = .ok (.ireturn, 1) := by decide +kernel
theorem dX7_takes_0 : decode cX7_takes 0 = .ok (.aload_n 0, 1) := by decide +kernel
theorem dX7_takes_1 : decode cX7_takes 1 = .ok (.invokevirtual 104, 3) := by decide +kernel
theorem dX7_takes_4 : decode cX7_takes 4 = .ok (.iload_n 1, 1) := by decide +kernel
theorem dX7_takes_5 : decode cX7_takes 5 = .ok (.if_icmp .ne 7, 3) := by decide +kernel
theorem dX7_takes_8 : decode cX7_takes 8 = .ok (.iconst 1, 1) := by decide +kernel
theorem dX7_takes_9 : decode cX7_takes 9 = .ok (.goto 4, 3) := by decide +kernel
theorem dX7_takes_12 : decode cX7_takes 12 = .ok (.iconst 0, 1) := by decide +kernel
theorem dX7_takes_13 : decode cX7_takes 13 = .ok (.istore_n 2, 1) := by decide +kernel
theorem dX7_takes_14 : decode cX7_takes 14 = .ok (.aload_n 0, 1) := by decide +kernel
theorem dX7_takes_15 : decode cX7_takes 15 = .ok (.dup, 1) := by decide +kernel
theorem dX7_takes_16 : decode cX7_takes 16 = .ok (.getfield 92, 3) := by decide +kernel
theorem dX7_takes_19 : decode cX7_takes 19 = .ok (.iload_n 2, 1) := by decide +kernel
theorem dX7_takes_20 : decode cX7_takes 20 = .ok (.ifCond .eq 7, 3) := by decide +kernel
theorem dX7_takes_23 : decode cX7_takes 23 = .ok (.iconst 1, 1) := by decide +kernel
theorem dX7_takes_24 : decode cX7_takes 24 = .ok (.goto 4, 3) := by decide +kernel
theorem dX7_takes_27 : decode cX7_takes 27 = .ok (.iconst 0, 1) := by decide +kernel
theorem dX7_takes_28 : decode cX7_takes 28 = .ok (.iadd, 1) := by decide +kernel
theorem dX7_takes_29 : decode cX7_takes 29 = .ok (.putfield 92, 3) := by decide +kernel
theorem dX7_takes_32 : decode cX7_takes 32 = .ok (.iload_n 2, 1) := by decide +kernel
theorem dX7_takes_33 : decode cX7_takes 33 = .ok (.ireturn, 1) := by decide +kernel
theorem dX7_readPhase_0 : decode cX7_readPhase 0 = .ok (.aload_n 0, 1) := by decide +kernel
theorem dX7_readPhase_1 : decode cX7_readPhase 1 = .ok (.invokevirtual 104, 3) := by decide +kernel
theorem dX7_readPhase_4 : decode cX7_readPhase 4 = .ok (.invokestatic 111, 3) := by decide +kernel
theorem dX7_readPhase_7 : decode cX7_readPhase 7 = .ok (.istore_n 2, 1) := by decide +kernel
theorem dX7_readPhase_8 : decode cX7_readPhase 8 = .ok (.iload_n 2, 1) := by decide +kernel
theorem dX7_readPhase_9 : decode cX7_readPhase 9 = .ok (.iconst (-1), 1) := by decide +kernel
theorem dX7_readPhase_10 : decode cX7_readPhase 10 = .ok (.if_icmp .ne 8, 3) := by decide +kernel
theorem dX7_readPhase_13 : decode cX7_readPhase 13 = .ok (.aload_n 0, 1) := by decide +kernel
theorem dX7_readPhase_14 : decode cX7_readPhase 14 = .ok (.invokevirtual 107, 3) := by decide +kernel
theorem dX7_readPhase_17 : decode cX7_readPhase 17 = .ok (.ireturn, 1) := by decide +kernel
theorem dX7_readPhase_18 : decode cX7_readPhase 18 = .ok (.iload_n 1, 1) := by decide +kernel
theorem dX7_readPhase_19 : decode cX7_readPhase 19 = .ok (.bipush 8, 2) := by decide +kernel
theorem dX7_readPhase_21 : decode cX7_readPhase 21 = .ok (.if_icmp .ne 10, 3) := by decide +kernel
theorem dX7_readPhase_24 : decode cX7_readPhase 24 = .ok (.aload_n 0, 1) := by decide +kernel
theorem dX7_readPhase_25 : decode cX7_readPhase 25 = .ok (.iconst 4, 1) := by decide +kernel
theorem dX7_readPhase_26 : decode cX7_readPhase 26 = .ok (.putfield 98, 3) := by decide +kernel
theorem dX7_readPhase_29 : decode cX7_readPhase 29 = .ok (.iconst 0, 1) := by decide +kernel
theorem dX7_readPhase_30 : decode cX7_readPhase 30 = .ok (.ireturn, 1) := by decide +kernel
theorem dX7_readPhase_31 : decode cX7_readPhase 31 = .ok (.aload_n 0, 1) := by decide +kernel
theorem dX7_readPhase_32 : decode cX7_readPhase 32 = .ok (.dup, 1) := by decide +kernel
theorem dX7_readPhase_33 : decode cX7_readPhase 33 = .ok (.getfield 92, 3) := by decide +kernel
theorem dX7_readPhase_36 : decode cX7_readPhase 36 = .ok (.iconst 1, 1) := by decide +kernel
theorem dX7_readPhase_37 : decode cX7_readPhase 37 = .ok (.iadd, 1) := by decide +kernel
theorem dX7_readPhase_38 : decode cX7_readPhase 38 = .ok (.putfield 92, 3) := by decide +kernel
theorem dX7_readPhase_41 : decode cX7_readPhase 41 = .ok (.aload_n 0, 1) := by decide +kernel
theorem dX7_readPhase_42 : decode cX7_readPhase 42 = .ok (.iconst 2, 1) := by decide +kernel
theorem dX7_readPhase_43 : decode cX7_readPhase 43 = .ok (.bipush 99, 2) := by decide +kernel
theorem dX7_readPhase_45 : decode cX7_readPhase 45 = .ok (.invokevirtual 115, 3) := by decide +kernel
theorem dX7_readPhase_48 : decode cX7_readPhase 48 = .ok (.ifCond .ne 5, 3) := by decide +kernel
theorem dX7_readPhase_51 : decode cX7_readPhase 51 = .ok (.iconst 0, 1) := by decide +kernel
theorem dX7_readPhase_52 : decode cX7_readPhase 52 = .ok (.ireturn, 1) := by decide +kernel
theorem dX7_readPhase_53 : decode cX7_readPhase 53 = .ok (.aload_n 0, 1) := by decide +kernel
theorem dX7_readPhase_54 : decode cX7_readPhase 54 = .ok (.getfield 101, 3) := by decide +kernel
theorem dX7_readPhase_57 : decode cX7_readPhase 57 = .ok (.istore_n 3, 1) := by decide +kernel
theorem dX7_readPhase_58 : decode cX7_readPhase 58 = .ok (.iconst (-1), 1) := by decide +kernel
theorem dX7_readPhase_59 : decode cX7_readPhase 59 = .ok (.istore 4, 2) := by decide +kernel
theorem dX7_readPhase_61 : decode cX7_readPhase 61 = .ok (.aload_n 0, 1) := by decide +kernel
theorem dX7_readPhase_62 : decode cX7_readPhase 62 = .ok (.bipush 115, 2) := by decide +kernel
theorem dX7_readPhase_64 : decode cX7_readPhase 64 = .ok (.invokevirtual 119, 3) := by decide +kernel
theorem dX7_readPhase_67 : decode cX7_readPhase 67 = .ok (.ifCond .eq 51, 3) := by decide +kernel
theorem dX7_readPhase_70 : decode cX7_readPhase 70 = .ok (.aload_n 0, 1) := by decide +kernel
theorem dX7_readPhase_71 : decode cX7_readPhase 71 = .ok (.invokevirtual 104, 3) := by decide +kernel
theorem dX7_readPhase_74 : decode cX7_readPhase 74 = .ok (.bipush 48, 2) := by decide +kernel
theorem dX7_readPhase_76 : decode cX7_readPhase 76 = .ok (.bipush 50, 2) := by decide +kernel
theorem dX7_readPhase_78 : decode cX7_readPhase 78 = .ok (.invokestatic 36, 3) := by decide +kernel
theorem dX7_readPhase_81 : decode cX7_readPhase 81 = .ok (.ifCond .eq 13, 3) := by decide +kernel
theorem dX7_readPhase_84 : decode cX7_readPhase 84 = .ok (.aload_n 0, 1) := by decide +kernel
theorem dX7_readPhase_85 : decode cX7_readPhase 85 = .ok (.invokevirtual 104, 3) := by decide +kernel
theorem dX7_readPhase_88 : decode cX7_readPhase 88 = .ok (.bipush 48, 2) := by decide +kernel
theorem dX7_readPhase_90 : decode cX7_readPhase 90 = .ok (.isub, 1) := by decide +kernel
theorem dX7_readPhase_91 : decode cX7_readPhase 91 = .ok (.goto 4, 3) := by decide +kernel
theorem dX7_readPhase_94 : decode cX7_readPhase 94 = .ok (.iconst (-1), 1) := by decide +kernel
theorem dX7_readPhase_95 : decode cX7_readPhase 95 = .ok (.istore 4, 2) := by decide +kernel
theorem dX7_readPhase_97 : decode cX7_readPhase 97 = .ok (.iload 4, 2) := by decide +kernel
theorem dX7_readPhase_99 : decode cX7_readPhase 99 = .ok (.iconst (-1), 1) := by decide +kernel
theorem dX7_readPhase_100 : decode cX7_readPhase 100 = .ok (.if_icmp .ne 8, 3) := by decide +kernel
theorem dX7_readPhase_103 : decode cX7_readPhase 103 = .ok (.aload_n 0, 1) := by decide +kernel
theorem dX7_readPhase_104 : decode cX7_readPhase 104 = .ok (.invokevirtual 107, 3) := by decide +kernel
theorem dX7_readPhase_107 : decode cX7_readPhase 107 = .ok (.ireturn, 1) := by decide +kernel
theorem dX7_readPhase_108 : decode cX7_readPhase 108 = .ok (.aload_n 0, 1) := by decide +kernel
theorem dX7_readPhase_109 : decode cX7_readPhase 109 = .ok (.dup, 1) := by decide +kernel
theorem dX7_readPhase_110 : decode cX7_readPhase 110 = .ok (.getfield 92, 3) := by decide +kernel
theorem dX7_readPhase_113 : decode cX7_readPhase 113 = .ok (.iconst 1, 1) := by decide +kernel
theorem dX7_readPhase_114 : decode cX7_readPhase 114 = .ok (.iadd, 1) := by decide +kernel
theorem dX7_readPhase_115 : decode cX7_readPhase 115 = .ok (.putfield 92, 3) := by decide +kernel
theorem dX7_readPhase_118 : decode cX7_readPhase 118 = .ok (.aload_n 0, 1) := by decide +kernel
theorem dX7_readPhase_119 : decode cX7_readPhase 119 = .ok (.bipush 100, 2) := by decide +kernel
theorem dX7_readPhase_121 : decode cX7_readPhase 121 = .ok (.putfield 101, 3) := by decide +kernel
theorem dX7_readPhase_124 : decode cX7_readPhase 124 = .ok (.aload_n 0, 1) := by decide +kernel
theorem dX7_readPhase_125 : decode cX7_readPhase 125 = .ok (.bipush 121, 2) := by decide +kernel
theorem dX7_readPhase_127 : decode cX7_readPhase 127 = .ok (.invokevirtual 119, 3) := by decide +kernel
theorem dX7_readPhase_130 : decode cX7_readPhase 130 = .ok (.ifCond .eq 15, 3) := by decide +kernel
theorem dX7_readPhase_133 : decode cX7_readPhase 133 = .ok (.aload_n 0, 1) := by decide +kernel
theorem dX7_readPhase_134 : decode cX7_readPhase 134 = .ok (.iconst 3, 1) := by decide +kernel
theorem dX7_readPhase_135 : decode cX7_readPhase 135 = .ok (.bipush 100, 2) := by decide +kernel
theorem dX7_readPhase_137 : decode cX7_readPhase 137 = .ok (.invokevirtual 115, 3) := by decide +kernel
theorem dX7_readPhase_140 : decode cX7_readPhase 140 = .ok (.ifCond .ne 5, 3) := by decide +kernel
theorem dX7_readPhase_143 : decode cX7_readPhase 143 = .ok (.iconst 0, 1) := by decide +kernel
theorem dX7_readPhase_144 : decode cX7_readPhase 144 = .ok (.ireturn, 1) := by decide +kernel
theorem dX7_readPhase_145 : decode cX7_readPhase 145 = .ok (.aload_n 0, 1) := by decide +kernel
theorem dX7_readPhase_146 : decode cX7_readPhase 146 = .ok (.bipush 97, 2) := by decide +kernel
theorem dX7_readPhase_148 : decode cX7_readPhase 148 = .ok (.invokevirtual 119, 3) := by decide +kernel
theorem dX7_readPhase_151 : decode cX7_readPhase 151 = .ok (.ifCond .eq 7, 3) := by decide +kernel
theorem dX7_readPhase_154 : decode cX7_readPhase 154 = .ok (.iconst 1, 1) := by decide +kernel
theorem dX7_readPhase_155 : decode cX7_readPhase 155 = .ok (.goto 4, 3) := by decide +kernel
theorem dX7_readPhase_158 : decode cX7_readPhase 158 = .ok (.iconst 0, 1) := by decide +kernel
theorem dX7_readPhase_159 : decode cX7_readPhase 159 = .ok (.istore 5, 2) := by decide +kernel
theorem dX7_readPhase_161 : decode cX7_readPhase 161 = .ok (.aload_n 0, 1) := by decide +kernel
theorem dX7_readPhase_162 : decode cX7_readPhase 162 = .ok (.bipush 59, 2) := by decide +kernel
theorem dX7_readPhase_164 : decode cX7_readPhase 164 = .ok (.invokevirtual 119, 3) := by decide +kernel
theorem dX7_readPhase_167 : decode cX7_readPhase 167 = .ok (.ifCond .ne 8, 3) := by decide +kernel
theorem dX7_readPhase_170 : decode cX7_readPhase 170 = .ok (.aload_n 0, 1) := by decide +kernel
theorem dX7_readPhase_171 : decode cX7_readPhase 171 = .ok (.invokevirtual 107, 3) := by decide +kernel
theorem dX7_readPhase_174 : decode cX7_readPhase 174 = .ok (.ireturn, 1) := by decide +kernel
theorem dX7_readPhase_175 : decode cX7_readPhase 175 = .ok (.aload_n 0, 1) := by decide +kernel
theorem dX7_readPhase_176 : decode cX7_readPhase 176 = .ok (.getfield 22, 3) := by decide +kernel
theorem dX7_readPhase_179 : decode cX7_readPhase 179 = .ok (.iload_n 1, 1) := by decide +kernel
theorem dX7_readPhase_180 : decode cX7_readPhase 180 = .ok (.iload_n 2, 1) := by decide +kernel
theorem dX7_readPhase_181 : decode cX7_readPhase 181 = .ok (.iload_n 3, 1) := by decide +kernel
theorem dX7_readPhase_182 : decode cX7_readPhase 182 = .ok (.iconst 2, 1) := by decide +kernel
theorem dX7_readPhase_183 : decode cX7_readPhase 183 = .ok (.ishl, 1) := by decide +kernel
theorem dX7_readPhase_184 : decode cX7_readPhase 184 = .ok (.ior, 1) := by decide +kernel
theorem dX7_readPhase_185 : decode cX7_readPhase 185 = .ok (.iload 4, 2) := by decide +kernel
theorem dX7_readPhase_187 : decode cX7_readPhase 187 = .ok (.iconst 1, 1) := by decide +kernel
theorem dX7_readPhase_188 : decode cX7_readPhase 188 = .ok (.iadd, 1) := by decide +kernel
theorem dX7_readPhase_189 : decode cX7_readPhase 189 = .ok (.bipush 9, 2) := by decide +kernel
theorem dX7_readPhase_191 : decode cX7_readPhase 191 = .ok (.ishl, 1) := by decide +kernel
theorem dX7_readPhase_192 : decode cX7_readPhase 192 = .ok (.ior, 1) := by decide +kernel
theorem dX7_readPhase_193 : decode cX7_readPhase 193 = .ok (.aload_n 0, 1) := by decide +kernel
theorem dX7_readPhase_194 : decode cX7_readPhase 194 = .ok (.getfield 101, 3) := by decide +kernel
theorem dX7_readPhase_197 : decode cX7_readPhase 197 = .ok (.bipush 11, 2) := by decide +kernel
theorem dX7_readPhase_199 : decode cX7_readPhase 199 = .ok (.ishl, 1) := by decide +kernel
theorem dX7_readPhase_200 : decode cX7_readPhase 200 = .ok (.ior, 1) := by decide +kernel
theorem dX7_readPhase_201 : decode cX7_readPhase 201 = .ok (.iload 5, 2) := by decide +kernel
theorem dX7_readPhase_203 : decode cX7_readPhase 203 = .ok (.bipush 18, 2) := by decide +kernel
theorem dX7_readPhase_205 : decode cX7_readPhase 205 = .ok (.ishl, 1) := by decide +kernel
theorem dX7_readPhase_206 : decode cX7_readPhase 206 = .ok (.ior, 1) := by decide +kernel
theorem dX7_readPhase_207 : decode cX7_readPhase 207 = .ok (.iastore, 1) := by decide +kernel
theorem dX7_readPhase_208 : decode cX7_readPhase 208 = .ok (.iconst 1, 1) := by decide +kernel
theorem dX7_readPhase_209 : decode cX7_readPhase 209 = .ok (.ireturn, 1) := by decide +kernel
theorem dX7_readText_0 : decode cX7_readText 0 = .ok (.aload_n 0, 1) := by decide +kernel
theorem dX7_readText_1 : decode cX7_readText 1 = .ok (.iconst 0, 1) := by decide +kernel
theorem dX7_readText_2 : decode cX7_readText 2 = .ok (.putfield 92, 3) := by decide +kernel
theorem dX7_readText_5 : decode cX7_readText 5 = .ok (.aload_n 0, 1) := by decide +kernel
theorem dX7_readText_6 : decode cX7_readText 6 = .ok (.iconst 0, 1) := by decide +kernel
theorem dX7_readText_7 : decode cX7_readText 7 = .ok (.putfield 98, 3) := by decide +kernel
theorem dX7_readText_10 : decode cX7_readText 10 = .ok (.iconst 0, 1) := by decide +kernel
theorem dX7_readText_11 : decode cX7_readText 11 = .ok (.istore_n 1, 1) := by decide +kernel
theorem dX7_readText_12 : decode cX7_readText 12 = .ok (.iconst 1, 1) := by decide +kernel
theorem dX7_readText_13 : decode cX7_readText 13 = .ok (.istore_n 2, 1) := by decide +kernel
theorem dX7_readText_14 : decode cX7_readText 14 = .ok (.iload_n 2, 1) := by decide +kernel
theorem dX7_readText_15 : decode cX7_readText 15 = .ok (.ifCond .eq 30, 3) := by decide +kernel
theorem dX7_readText_18 : decode cX7_readText 18 = .ok (.iload_n 1, 1) := by decide +kernel
theorem dX7_readText_19 : decode cX7_readText 19 = .ok (.ifCond .eq 14, 3) := by decide +kernel
theorem dX7_readText_22 : decode cX7_readText 22 = .ok (.aload_n 0, 1) := by decide +kernel
theorem dX7_readText_23 : decode cX7_readText 23 = .ok (.getfield 92, 3) := by decide +kernel
theorem dX7_readText_26 : decode cX7_readText 26 = .ok (.aload_n 0, 1) := by decide +kernel
theorem dX7_readText_27 : decode cX7_readText 27 = .ok (.getfield 95, 3) := by decide +kernel
theorem dX7_readText_30 : decode cX7_readText 30 = .ok (.if_icmp .ge 15, 3) := by decide +kernel
theorem dX7_readText_33 : decode cX7_readText 33 = .ok (.aload_n 0, 1) := by decide +kernel
theorem dX7_readText_34 : decode cX7_readText 34 = .ok (.iload_n 1, 1) := by decide +kernel
theorem dX7_readText_35 : decode cX7_readText 35 = .ok (.invokevirtual 122, 3) := by decide +kernel
theorem dX7_readText_38 : decode cX7_readText 38 = .ok (.istore_n 2, 1) := by decide +kernel
theorem dX7_readText_39 : decode cX7_readText 39 = .ok (.iinc 1 1, 3) := by decide +kernel
theorem dX7_readText_42 : decode cX7_readText 42 = .ok (.goto (-28), 3) := by decide +kernel
theorem dX7_readText_45 : decode cX7_readText 45 = .ok (.iload_n 2, 1) := by decide +kernel
theorem dX7_readText_46 : decode cX7_readText 46 = .ok (.ifCond .eq 7, 3) := by decide +kernel
theorem dX7_readText_49 : decode cX7_readText 49 = .ok (.iload_n 1, 1) := by decide +kernel
theorem dX7_readText_50 : decode cX7_readText 50 = .ok (.goto 4, 3) := by decide +kernel
theorem dX7_readText_53 : decode cX7_readText 53 = .ok (.iconst (-1), 1) := by decide +kernel
theorem dX7_readText_54 : decode cX7_readText 54 = .ok (.ireturn, 1) := by decide +kernel
theorem dX7_recipe_0 : decode cX7_recipe 0 = .ok (.iload_n 1, 1) := by decide +kernel
theorem dX7_recipe_1 : decode cX7_recipe 1 = .ok (.invokestatic 125, 3) := by decide +kernel
theorem dX7_recipe_4 : decode cX7_recipe 4 = .ok (.ifCond .ne 5, 3) := by decide +kernel
theorem dX7_recipe_7 : decode cX7_recipe 7 = .ok (.iconst (-1), 1) := by decide +kernel
theorem dX7_recipe_8 : decode cX7_recipe 8 = .ok (.ireturn, 1) := by decide +kernel
theorem dX7_recipe_9 : decode cX7_recipe 9 = .ok (.aload_n 0, 1) := by decide +kernel
theorem dX7_recipe_10 : decode cX7_recipe 10 = .ok (.invokevirtual 128, 3) := by decide +kernel
theorem dX7_recipe_13 : decode cX7_recipe 13 = .ok (.istore_n 2, 1) := by decide +kernel
theorem dX7_recipe_14 : decode cX7_recipe 14 = .ok (.iload_n 2, 1) := by decide +kernel
theorem dX7_recipe_15 : decode cX7_recipe 15 = .ok (.iconst (-1), 1) := by decide +kernel
theorem dX7_recipe_16 : decode cX7_recipe 16 = .ok (.if_icmp .ne 6, 3) := by decide +kernel
theorem dX7_recipe_19 : decode cX7_recipe 19 = .ok (.bipush (-2), 2) := by decide +kernel
theorem dX7_recipe_21 : decode cX7_recipe 21 = .ok (.ireturn, 1) := by decide +kernel
theorem dX7_recipe_22 : decode cX7_recipe 22 = .ok (.aload_n 0, 1) := by decide +kernel
theorem dX7_recipe_23 : decode cX7_recipe 23 = .ok (.getfield 7, 3) := by decide +kernel
theorem dX7_recipe_26 : decode cX7_recipe 26 = .ok (.bipush 56, 2) := by decide +kernel
theorem dX7_recipe_28 : decode cX7_recipe 28 = .ok (.iload_n 1, 1) := by decide +kernel
theorem dX7_recipe_29 : decode cX7_recipe 29 = .ok (.iadd, 1) := by decide +kernel
theorem dX7_recipe_30 : decode cX7_recipe 30 = .ok (.iaload, 1) := by decide +kernel
theorem dX7_recipe_31 : decode cX7_recipe 31 = .ok (.bipush 9, 2) := by decide +kernel
theorem dX7_recipe_33 : decode cX7_recipe 33 = .ok (.if_icmp .ne 6, 3) := by decide +kernel
theorem dX7_recipe_36 : decode cX7_recipe 36 = .ok (.bipush (-3), 2) := by decide +kernel
theorem dX7_recipe_38 : decode cX7_recipe 38 = .ok (.ireturn, 1) := by decide +kernel
theorem dX7_recipe_39 : decode cX7_recipe 39 = .ok (.aload_n 0, 1) := by decide +kernel
theorem dX7_recipe_40 : decode cX7_recipe 40 = .ok (.invokevirtual 44, 3) := by decide +kernel
theorem dX7_recipe_43 : decode cX7_recipe 43 = .ok (.bipush 9, 2) := by decide +kernel
theorem dX7_recipe_45 : decode cX7_recipe 45 = .ok (.iload_n 1, 1) := by decide +kernel
theorem dX7_recipe_46 : decode cX7_recipe 46 = .ok (.imul, 1) := by decide +kernel
theorem dX7_recipe_47 : decode cX7_recipe 47 = .ok (.aload_n 0, 1) := by decide +kernel
theorem dX7_recipe_48 : decode cX7_recipe 48 = .ok (.getfield 7, 3) := by decide +kernel
theorem dX7_recipe_51 : decode cX7_recipe 51 = .ok (.bipush 56, 2) := by decide +kernel
theorem dX7_recipe_53 : decode cX7_recipe 53 = .ok (.iload_n 1, 1) := by decide +kernel
theorem dX7_recipe_54 : decode cX7_recipe 54 = .ok (.iadd, 1) := by decide +kernel
theorem dX7_recipe_55 : decode cX7_recipe 55 = .ok (.iaload, 1) := by decide +kernel
theorem dX7_recipe_56 : decode cX7_recipe 56 = .ok (.iadd, 1) := by decide +kernel
theorem dX7_recipe_57 : decode cX7_recipe 57 = .ok (.istore_n 3, 1) := by decide +kernel
theorem dX7_recipe_58 : decode cX7_recipe 58 = .ok (.aload_n 0, 1) := by decide +kernel
theorem dX7_recipe_59 : decode cX7_recipe 59 = .ok (.getfield 7, 3) := by decide +kernel
theorem dX7_recipe_62 : decode cX7_recipe 62 = .ok (.bipush 62, 2) := by decide +kernel
theorem dX7_recipe_64 : decode cX7_recipe 64 = .ok (.iload_n 3, 1) := by decide +kernel
theorem dX7_recipe_65 : decode cX7_recipe 65 = .ok (.iadd, 1) := by decide +kernel
theorem dX7_recipe_66 : decode cX7_recipe 66 = .ok (.iload_n 2, 1) := by decide +kernel
theorem dX7_recipe_67 : decode cX7_recipe 67 = .ok (.iastore, 1) := by decide +kernel
theorem dX7_recipe_68 : decode cX7_recipe 68 = .ok (.iconst 0, 1) := by decide +kernel
theorem dX7_recipe_69 : decode cX7_recipe 69 = .ok (.istore 4, 2) := by decide +kernel
theorem dX7_recipe_71 : decode cX7_recipe 71 = .ok (.iload 4, 2) := by decide +kernel
theorem dX7_recipe_73 : decode cX7_recipe 73 = .ok (.iload_n 2, 1) := by decide +kernel
theorem dX7_recipe_74 : decode cX7_recipe 74 = .ok (.if_icmp .ge 31, 3) := by decide +kernel
theorem dX7_recipe_77 : decode cX7_recipe 77 = .ok (.aload_n 0, 1) := by decide +kernel
theorem dX7_recipe_78 : decode cX7_recipe 78 = .ok (.getfield 7, 3) := by decide +kernel
theorem dX7_recipe_81 : decode cX7_recipe 81 = .ok (.bipush 116, 2) := by decide +kernel
theorem dX7_recipe_83 : decode cX7_recipe 83 = .ok (.bipush 8, 2) := by decide +kernel
theorem dX7_recipe_85 : decode cX7_recipe 85 = .ok (.iload_n 3, 1) := by decide +kernel
theorem dX7_recipe_86 : decode cX7_recipe 86 = .ok (.imul, 1) := by decide +kernel
theorem dX7_recipe_87 : decode cX7_recipe 87 = .ok (.iadd, 1) := by decide +kernel
theorem dX7_recipe_88 : decode cX7_recipe 88 = .ok (.iload 4, 2) := by decide +kernel
theorem dX7_recipe_90 : decode cX7_recipe 90 = .ok (.iadd, 1) := by decide +kernel
theorem dX7_recipe_91 : decode cX7_recipe 91 = .ok (.aload_n 0, 1) := by decide +kernel
theorem dX7_recipe_92 : decode cX7_recipe 92 = .ok (.getfield 22, 3) := by decide +kernel
theorem dX7_recipe_95 : decode cX7_recipe 95 = .ok (.iload 4, 2) := by decide +kernel
theorem dX7_recipe_97 : decode cX7_recipe 97 = .ok (.iaload, 1) := by decide +kernel
theorem dX7_recipe_98 : decode cX7_recipe 98 = .ok (.iastore, 1) := by decide +kernel
theorem dX7_recipe_99 : decode cX7_recipe 99 = .ok (.iinc 4 1, 3) := by decide +kernel
theorem dX7_recipe_102 : decode cX7_recipe 102 = .ok (.goto (-31), 3) := by decide +kernel
theorem dX7_recipe_105 : decode cX7_recipe 105 = .ok (.aload_n 0, 1) := by decide +kernel
theorem dX7_recipe_106 : decode cX7_recipe 106 = .ok (.getfield 7, 3) := by decide +kernel
theorem dX7_recipe_109 : decode cX7_recipe 109 = .ok (.bipush 56, 2) := by decide +kernel
theorem dX7_recipe_111 : decode cX7_recipe 111 = .ok (.iload_n 1, 1) := by decide +kernel
theorem dX7_recipe_112 : decode cX7_recipe 112 = .ok (.iadd, 1) := by decide +kernel
theorem dX7_recipe_113 : decode cX7_recipe 113 = .ok (.dup2, 1) := by decide +kernel
theorem dX7_recipe_114 : decode cX7_recipe 114 = .ok (.iaload, 1) := by decide +kernel
theorem dX7_recipe_115 : decode cX7_recipe 115 = .ok (.iconst 1, 1) := by decide +kernel
theorem dX7_recipe_116 : decode cX7_recipe 116 = .ok (.iadd, 1) := by decide +kernel
theorem dX7_recipe_117 : decode cX7_recipe 117 = .ok (.iastore, 1) := by decide +kernel
theorem dX7_recipe_118 : decode cX7_recipe 118 = .ok (.aload_n 0, 1) := by decide +kernel
theorem dX7_recipe_119 : decode cX7_recipe 119 = .ok (.getfield 7, 3) := by decide +kernel
theorem dX7_recipe_122 : decode cX7_recipe 122 = .ok (.bipush 56, 2) := by decide +kernel
theorem dX7_recipe_124 : decode cX7_recipe 124 = .ok (.iload_n 1, 1) := by decide +kernel
theorem dX7_recipe_125 : decode cX7_recipe 125 = .ok (.iadd, 1) := by decide +kernel
theorem dX7_recipe_126 : decode cX7_recipe 126 = .ok (.iaload, 1) := by decide +kernel
theorem dX7_recipe_127 : decode cX7_recipe 127 = .ok (.ireturn, 1) := by decide +kernel
theorem dX7_versions_0 : decode cX7_versions 0 = .ok (.iload_n 1, 1) := by decide +kernel
theorem dX7_versions_1 : decode cX7_versions 1 = .ok (.invokestatic 125, 3) := by decide +kernel
theorem dX7_versions_4 : decode cX7_versions 4 = .ok (.ifCond .eq 15, 3) := by decide +kernel
theorem dX7_versions_7 : decode cX7_versions 7 = .ok (.aload_n 0, 1) := by decide +kernel
theorem dX7_versions_8 : decode cX7_versions 8 = .ok (.getfield 7, 3) := by decide +kernel
theorem dX7_versions_11 : decode cX7_versions 11 = .ok (.bipush 56, 2) := by decide +kernel
theorem dX7_versions_13 : decode cX7_versions 13 = .ok (.iload_n 1, 1) := by decide +kernel
theorem dX7_versions_14 : decode cX7_versions 14 = .ok (.iadd, 1) := by decide +kernel
theorem dX7_versions_15 : decode cX7_versions 15 = .ok (.iaload, 1) := by decide +kernel
theorem dX7_versions_16 : decode cX7_versions 16 = .ok (.goto 4, 3) := by decide +kernel
theorem dX7_versions_19 : decode cX7_versions 19 = .ok (.iconst (-1), 1) := by decide +kernel
theorem dX7_versions_20 : decode cX7_versions 20 = .ok (.ireturn, 1) := by decide +kernel
theorem dX7_partOf_0 : decode cX7_partOf 0 = .ok (.iload_n 1, 1) := by decide +kernel
theorem dX7_partOf_1 : decode cX7_partOf 1 = .ok (.tableswitch 64 0 3 #[31, 36, 41, 59], 31) := by decide +kernel
theorem dX7_partOf_32 : decode cX7_partOf 32 = .ok (.iload_n 0, 1) := by decide +kernel
theorem dX7_partOf_33 : decode cX7_partOf 33 = .ok (.invokestatic 131, 3) := by decide +kernel
theorem dX7_partOf_36 : decode cX7_partOf 36 = .ok (.ireturn, 1) := by decide +kernel
theorem dX7_partOf_37 : decode cX7_partOf 37 = .ok (.iload_n 0, 1) := by decide +kernel
theorem dX7_partOf_38 : decode cX7_partOf 38 = .ok (.invokestatic 134, 3) := by decide +kernel
theorem dX7_partOf_41 : decode cX7_partOf 41 = .ok (.ireturn, 1) := by decide +kernel
theorem dX7_partOf_42 : decode cX7_partOf 42 = .ok (.iload_n 0, 1) := by decide +kernel
theorem dX7_partOf_43 : decode cX7_partOf 43 = .ok (.invokestatic 137, 3) := by decide +kernel
theorem dX7_partOf_46 : decode cX7_partOf 46 = .ok (.iconst (-1), 1) := by decide +kernel
theorem dX7_partOf_47 : decode cX7_partOf 47 = .ok (.if_icmp .ne 8, 3) := by decide +kernel
theorem dX7_partOf_50 : decode cX7_partOf 50 = .ok (.bipush (-4), 2) := by decide +kernel
theorem dX7_partOf_52 : decode cX7_partOf 52 = .ok (.goto 7, 3) := by decide +kernel
theorem dX7_partOf_55 : decode cX7_partOf 55 = .ok (.iload_n 0, 1) := by decide +kernel
theorem dX7_partOf_56 : decode cX7_partOf 56 = .ok (.invokestatic 137, 3) := by decide +kernel
theorem dX7_partOf_59 : decode cX7_partOf 59 = .ok (.ireturn, 1) := by decide +kernel
theorem dX7_partOf_60 : decode cX7_partOf 60 = .ok (.iload_n 0, 1) := by decide +kernel
theorem dX7_partOf_61 : decode cX7_partOf 61 = .ok (.invokestatic 140, 3) := by decide +kernel
theorem dX7_partOf_64 : decode cX7_partOf 64 = .ok (.ireturn, 1) := by decide +kernel
theorem dX7_partOf_65 : decode cX7_partOf 65 = .ok (.iload_n 0, 1) := by decide +kernel
theorem dX7_partOf_66 : decode cX7_partOf 66 = .ok (.invokestatic 143, 3) := by decide +kernel
theorem dX7_partOf_69 : decode cX7_partOf 69 = .ok (.ireturn, 1) := by decide +kernel
theorem dX7_phase_0 : decode cX7_phase 0 = .ok (.iload_n 1, 1) := by decide +kernel
theorem dX7_phase_1 : decode cX7_phase 1 = .ok (.invokestatic 125, 3) := by decide +kernel
end
section
theorem dX7_phase_4 : decode cX7_phase 4 = .ok (.ifCond .eq 34, 3) := by decide +kernel
theorem dX7_phase_7 : decode cX7_phase 7 = .ok (.iload_n 2, 1) := by decide +kernel
theorem dX7_phase_8 : decode cX7_phase 8 = .ok (.iconst 1, 1) := by decide +kernel
theorem dX7_phase_9 : decode cX7_phase 9 = .ok (.aload_n 0, 1) := by decide +kernel
theorem dX7_phase_10 : decode cX7_phase 10 = .ok (.getfield 7, 3) := by decide +kernel
theorem dX7_phase_13 : decode cX7_phase 13 = .ok (.bipush 56, 2) := by decide +kernel
theorem dX7_phase_15 : decode cX7_phase 15 = .ok (.iload_n 1, 1) := by decide +kernel
theorem dX7_phase_16 : decode cX7_phase 16 = .ok (.iadd, 1) := by decide +kernel
theorem dX7_phase_17 : decode cX7_phase 17 = .ok (.iaload, 1) := by decide +kernel
theorem dX7_phase_18 : decode cX7_phase 18 = .ok (.invokestatic 36, 3) := by decide +kernel
theorem dX7_phase_21 : decode cX7_phase 21 = .ok (.ifCond .eq 17, 3) := by decide +kernel
theorem dX7_phase_24 : decode cX7_phase 24 = .ok (.iload_n 3, 1) := by decide +kernel
theorem dX7_phase_25 : decode cX7_phase 25 = .ok (.ifCond .lt 13, 3) := by decide +kernel
theorem dX7_phase_28 : decode cX7_phase 28 = .ok (.iload 4, 2) := by decide +kernel
theorem dX7_phase_30 : decode cX7_phase 30 = .ok (.iconst 0, 1) := by decide +kernel
theorem dX7_phase_31 : decode cX7_phase 31 = .ok (.iconst 4, 1) := by decide +kernel
theorem dX7_phase_32 : decode cX7_phase 32 = .ok (.invokestatic 36, 3) := by decide +kernel
theorem dX7_phase_35 : decode cX7_phase 35 = .ok (.ifCond .ne 5, 3) := by decide +kernel
theorem dX7_phase_38 : decode cX7_phase 38 = .ok (.iconst (-1), 1) := by decide +kernel
theorem dX7_phase_39 : decode cX7_phase 39 = .ok (.ireturn, 1) := by decide +kernel
theorem dX7_phase_40 : decode cX7_phase 40 = .ok (.iload_n 3, 1) := by decide +kernel
theorem dX7_phase_41 : decode cX7_phase 41 = .ok (.aload_n 0, 1) := by decide +kernel
theorem dX7_phase_42 : decode cX7_phase 42 = .ok (.iload_n 1, 1) := by decide +kernel
theorem dX7_phase_43 : decode cX7_phase 43 = .ok (.iload_n 2, 1) := by decide +kernel
theorem dX7_phase_44 : decode cX7_phase 44 = .ok (.invokevirtual 146, 3) := by decide +kernel
theorem dX7_phase_47 : decode cX7_phase 47 = .ok (.if_icmp .ge 18, 3) := by decide +kernel
theorem dX7_phase_50 : decode cX7_phase 50 = .ok (.aload_n 0, 1) := by decide +kernel
theorem dX7_phase_51 : decode cX7_phase 51 = .ok (.iload_n 1, 1) := by decide +kernel
theorem dX7_phase_52 : decode cX7_phase 52 = .ok (.iload_n 2, 1) := by decide +kernel
theorem dX7_phase_53 : decode cX7_phase 53 = .ok (.iload_n 3, 1) := by decide +kernel
theorem dX7_phase_54 : decode cX7_phase 54 = .ok (.invokevirtual 85, 3) := by decide +kernel
theorem dX7_phase_57 : decode cX7_phase 57 = .ok (.iload 4, 2) := by decide +kernel
theorem dX7_phase_59 : decode cX7_phase 59 = .ok (.invokestatic 149, 3) := by decide +kernel
theorem dX7_phase_62 : decode cX7_phase 62 = .ok (.goto 5, 3) := by decide +kernel
theorem dX7_phase_65 : decode cX7_phase 65 = .ok (.bipush (-4), 2) := by decide +kernel
theorem dX7_phase_67 : decode cX7_phase 67 = .ok (.ireturn, 1) := by decide +kernel
theorem dX7_batch_0 : decode cX7_batch 0 = .ok (.iload_n 1, 1) := by decide +kernel
theorem dX7_batch_1 : decode cX7_batch 1 = .ok (.invokestatic 125, 3) := by decide +kernel
theorem dX7_batch_4 : decode cX7_batch 4 = .ok (.ifCond .eq 39, 3) := by decide +kernel
theorem dX7_batch_7 : decode cX7_batch 7 = .ok (.iload_n 2, 1) := by decide +kernel
theorem dX7_batch_8 : decode cX7_batch 8 = .ok (.iconst 1, 1) := by decide +kernel
theorem dX7_batch_9 : decode cX7_batch 9 = .ok (.sipush 10000, 3) := by decide +kernel
theorem dX7_batch_12 : decode cX7_batch 12 = .ok (.invokestatic 36, 3) := by decide +kernel
theorem dX7_batch_15 : decode cX7_batch 15 = .ok (.ifCond .eq 28, 3) := by decide +kernel
theorem dX7_batch_18 : decode cX7_batch 18 = .ok (.iload_n 3, 1) := by decide +kernel
theorem dX7_batch_19 : decode cX7_batch 19 = .ok (.iconst 0, 1) := by decide +kernel
theorem dX7_batch_20 : decode cX7_batch 20 = .ok (.bipush 9, 2) := by decide +kernel
theorem dX7_batch_22 : decode cX7_batch 22 = .ok (.invokestatic 36, 3) := by decide +kernel
theorem dX7_batch_25 : decode cX7_batch 25 = .ok (.ifCond .eq 18, 3) := by decide +kernel
theorem dX7_batch_28 : decode cX7_batch 28 = .ok (.iload 4, 2) := by decide +kernel
theorem dX7_batch_30 : decode cX7_batch 30 = .ok (.iconst (-1), 1) := by decide +kernel
theorem dX7_batch_31 : decode cX7_batch 31 = .ok (.if_icmp .eq 14, 3) := by decide +kernel
theorem dX7_batch_34 : decode cX7_batch 34 = .ok (.aload_n 0, 1) := by decide +kernel
theorem dX7_batch_35 : decode cX7_batch 35 = .ok (.iload 4, 2) := by decide +kernel
theorem dX7_batch_37 : decode cX7_batch 37 = .ok (.invokevirtual 152, 3) := by decide +kernel
theorem dX7_batch_40 : decode cX7_batch 40 = .ok (.ifCond .ne 5, 3) := by decide +kernel
theorem dX7_batch_43 : decode cX7_batch 43 = .ok (.iconst (-1), 1) := by decide +kernel
theorem dX7_batch_44 : decode cX7_batch 44 = .ok (.ireturn, 1) := by decide +kernel
theorem dX7_batch_45 : decode cX7_batch 45 = .ok (.iload 4, 2) := by decide +kernel
theorem dX7_batch_47 : decode cX7_batch 47 = .ok (.iconst (-1), 1) := by decide +kernel
theorem dX7_batch_48 : decode cX7_batch 48 = .ok (.if_icmp .eq 29, 3) := by decide +kernel
theorem dX7_batch_51 : decode cX7_batch 51 = .ok (.aload_n 0, 1) := by decide +kernel
theorem dX7_batch_52 : decode cX7_batch 52 = .ok (.iload 4, 2) := by decide +kernel
theorem dX7_batch_54 : decode cX7_batch 54 = .ok (.iconst 5, 1) := by decide +kernel
theorem dX7_batch_55 : decode cX7_batch 55 = .ok (.invokevirtual 40, 3) := by decide +kernel
theorem dX7_batch_58 : decode cX7_batch 58 = .ok (.iconst 4, 1) := by decide +kernel
theorem dX7_batch_59 : decode cX7_batch 59 = .ok (.if_icmp .eq 14, 3) := by decide +kernel
theorem dX7_batch_62 : decode cX7_batch 62 = .ok (.aload_n 0, 1) := by decide +kernel
theorem dX7_batch_63 : decode cX7_batch 63 = .ok (.iload 4, 2) := by decide +kernel
theorem dX7_batch_65 : decode cX7_batch 65 = .ok (.iconst 5, 1) := by decide +kernel
theorem dX7_batch_66 : decode cX7_batch 66 = .ok (.invokevirtual 40, 3) := by decide +kernel
theorem dX7_batch_69 : decode cX7_batch 69 = .ok (.iconst 5, 1) := by decide +kernel
theorem dX7_batch_70 : decode cX7_batch 70 = .ok (.if_icmp .ne 7, 3) := by decide +kernel
theorem dX7_batch_73 : decode cX7_batch 73 = .ok (.iconst 1, 1) := by decide +kernel
theorem dX7_batch_74 : decode cX7_batch 74 = .ok (.goto 4, 3) := by decide +kernel
theorem dX7_batch_77 : decode cX7_batch 77 = .ok (.iconst 0, 1) := by decide +kernel
theorem dX7_batch_78 : decode cX7_batch 78 = .ok (.istore 5, 2) := by decide +kernel
theorem dX7_batch_80 : decode cX7_batch 80 = .ok (.aload_n 0, 1) := by decide +kernel
theorem dX7_batch_81 : decode cX7_batch 81 = .ok (.getfield 7, 3) := by decide +kernel
theorem dX7_batch_84 : decode cX7_batch 84 = .ok (.bipush 56, 2) := by decide +kernel
theorem dX7_batch_86 : decode cX7_batch 86 = .ok (.iload_n 1, 1) := by decide +kernel
theorem dX7_batch_87 : decode cX7_batch 87 = .ok (.iadd, 1) := by decide +kernel
theorem dX7_batch_88 : decode cX7_batch 88 = .ok (.iaload, 1) := by decide +kernel
theorem dX7_batch_89 : decode cX7_batch 89 = .ok (.ifCond .eq 8, 3) := by decide +kernel
theorem dX7_batch_92 : decode cX7_batch 92 = .ok (.iload 5, 2) := by decide +kernel
theorem dX7_batch_94 : decode cX7_batch 94 = .ok (.ifCond .eq 6, 3) := by decide +kernel
theorem dX7_batch_97 : decode cX7_batch 97 = .ok (.bipush (-2), 2) := by decide +kernel
theorem dX7_batch_99 : decode cX7_batch 99 = .ok (.ireturn, 1) := by decide +kernel
theorem dX7_batch_100 : decode cX7_batch 100 = .ok (.aload_n 0, 1) := by decide +kernel
theorem dX7_batch_101 : decode cX7_batch 101 = .ok (.getfield 7, 3) := by decide +kernel
theorem dX7_batch_104 : decode cX7_batch 104 = .ok (.iconst 3, 1) := by decide +kernel
theorem dX7_batch_105 : decode cX7_batch 105 = .ok (.iaload, 1) := by decide +kernel
theorem dX7_batch_106 : decode cX7_batch 106 = .ok (.bipush 12, 2) := by decide +kernel
theorem dX7_batch_108 : decode cX7_batch 108 = .ok (.if_icmp .ne 6, 3) := by decide +kernel
theorem dX7_batch_111 : decode cX7_batch 111 = .ok (.bipush (-3), 2) := by decide +kernel
theorem dX7_batch_113 : decode cX7_batch 113 = .ok (.ireturn, 1) := by decide +kernel
theorem dX7_batch_114 : decode cX7_batch 114 = .ok (.aload_n 0, 1) := by decide +kernel
theorem dX7_batch_115 : decode cX7_batch 115 = .ok (.invokevirtual 44, 3) := by decide +kernel
theorem dX7_batch_118 : decode cX7_batch 118 = .ok (.aload_n 0, 1) := by decide +kernel
theorem dX7_batch_119 : decode cX7_batch 119 = .ok (.getfield 7, 3) := by decide +kernel
theorem dX7_batch_122 : decode cX7_batch 122 = .ok (.iconst 3, 1) := by decide +kernel
theorem dX7_batch_123 : decode cX7_batch 123 = .ok (.iaload, 1) := by decide +kernel
theorem dX7_batch_124 : decode cX7_batch 124 = .ok (.istore 6, 2) := by decide +kernel
theorem dX7_batch_126 : decode cX7_batch 126 = .ok (.aload_n 0, 1) := by decide +kernel
theorem dX7_batch_127 : decode cX7_batch 127 = .ok (.getfield 7, 3) := by decide +kernel
theorem dX7_batch_130 : decode cX7_batch 130 = .ok (.iconst 3, 1) := by decide +kernel
theorem dX7_batch_131 : decode cX7_batch 131 = .ok (.dup2, 1) := by decide +kernel
theorem dX7_batch_132 : decode cX7_batch 132 = .ok (.iaload, 1) := by decide +kernel
theorem dX7_batch_133 : decode cX7_batch 133 = .ok (.iconst 1, 1) := by decide +kernel
theorem dX7_batch_134 : decode cX7_batch 134 = .ok (.iadd, 1) := by decide +kernel
theorem dX7_batch_135 : decode cX7_batch 135 = .ok (.iastore, 1) := by decide +kernel
theorem dX7_batch_136 : decode cX7_batch 136 = .ok (.aload_n 0, 1) := by decide +kernel
theorem dX7_batch_137 : decode cX7_batch 137 = .ok (.iload 6, 2) := by decide +kernel
theorem dX7_batch_139 : decode cX7_batch 139 = .ok (.iconst 0, 1) := by decide +kernel
theorem dX7_batch_140 : decode cX7_batch 140 = .ok (.iload_n 1, 1) := by decide +kernel
theorem dX7_batch_141 : decode cX7_batch 141 = .ok (.invokevirtual 54, 3) := by decide +kernel
theorem dX7_batch_144 : decode cX7_batch 144 = .ok (.aload_n 0, 1) := by decide +kernel
theorem dX7_batch_145 : decode cX7_batch 145 = .ok (.iload 6, 2) := by decide +kernel
theorem dX7_batch_147 : decode cX7_batch 147 = .ok (.iconst 1, 1) := by decide +kernel
theorem dX7_batch_148 : decode cX7_batch 148 = .ok (.aload_n 0, 1) := by decide +kernel
theorem dX7_batch_149 : decode cX7_batch 149 = .ok (.getfield 7, 3) := by decide +kernel
theorem dX7_batch_152 : decode cX7_batch 152 = .ok (.bipush 56, 2) := by decide +kernel
theorem dX7_batch_154 : decode cX7_batch 154 = .ok (.iload_n 1, 1) := by decide +kernel
theorem dX7_batch_155 : decode cX7_batch 155 = .ok (.iadd, 1) := by decide +kernel
theorem dX7_batch_156 : decode cX7_batch 156 = .ok (.iaload, 1) := by decide +kernel
theorem dX7_batch_157 : decode cX7_batch 157 = .ok (.invokevirtual 54, 3) := by decide +kernel
theorem dX7_batch_160 : decode cX7_batch 160 = .ok (.aload_n 0, 1) := by decide +kernel
theorem dX7_batch_161 : decode cX7_batch 161 = .ok (.iload 6, 2) := by decide +kernel
theorem dX7_batch_163 : decode cX7_batch 163 = .ok (.iconst 2, 1) := by decide +kernel
theorem dX7_batch_164 : decode cX7_batch 164 = .ok (.iload_n 2, 1) := by decide +kernel
theorem dX7_batch_165 : decode cX7_batch 165 = .ok (.invokevirtual 54, 3) := by decide +kernel
theorem dX7_batch_168 : decode cX7_batch 168 = .ok (.aload_n 0, 1) := by decide +kernel
theorem dX7_batch_169 : decode cX7_batch 169 = .ok (.iload 6, 2) := by decide +kernel
theorem dX7_batch_171 : decode cX7_batch 171 = .ok (.iconst 3, 1) := by decide +kernel
theorem dX7_batch_172 : decode cX7_batch 172 = .ok (.iload_n 3, 1) := by decide +kernel
theorem dX7_batch_173 : decode cX7_batch 173 = .ok (.invokevirtual 54, 3) := by decide +kernel
theorem dX7_batch_176 : decode cX7_batch 176 = .ok (.aload_n 0, 1) := by decide +kernel
theorem dX7_batch_177 : decode cX7_batch 177 = .ok (.iload 6, 2) := by decide +kernel
theorem dX7_batch_179 : decode cX7_batch 179 = .ok (.iconst 4, 1) := by decide +kernel
theorem dX7_batch_180 : decode cX7_batch 180 = .ok (.iload 4, 2) := by decide +kernel
theorem dX7_batch_182 : decode cX7_batch 182 = .ok (.invokevirtual 54, 3) := by decide +kernel
theorem dX7_batch_185 : decode cX7_batch 185 = .ok (.aload_n 0, 1) := by decide +kernel
theorem dX7_batch_186 : decode cX7_batch 186 = .ok (.iload 6, 2) := by decide +kernel
theorem dX7_batch_188 : decode cX7_batch 188 = .ok (.iconst 5, 1) := by decide +kernel
theorem dX7_batch_189 : decode cX7_batch 189 = .ok (.iconst 0, 1) := by decide +kernel
theorem dX7_batch_190 : decode cX7_batch 190 = .ok (.invokevirtual 54, 3) := by decide +kernel
theorem dX7_batch_193 : decode cX7_batch 193 = .ok (.aload_n 0, 1) := by decide +kernel
theorem dX7_batch_194 : decode cX7_batch 194 = .ok (.iload 6, 2) := by decide +kernel
theorem dX7_batch_196 : decode cX7_batch 196 = .ok (.bipush 6, 2) := by decide +kernel
theorem dX7_batch_198 : decode cX7_batch 198 = .ok (.iconst 0, 1) := by decide +kernel
theorem dX7_batch_199 : decode cX7_batch 199 = .ok (.invokevirtual 54, 3) := by decide +kernel
theorem dX7_batch_202 : decode cX7_batch 202 = .ok (.aload_n 0, 1) := by decide +kernel
theorem dX7_batch_203 : decode cX7_batch 203 = .ok (.iload 6, 2) := by decide +kernel
theorem dX7_batch_205 : decode cX7_batch 205 = .ok (.bipush 7, 2) := by decide +kernel
theorem dX7_batch_207 : decode cX7_batch 207 = .ok (.iconst 0, 1) := by decide +kernel
theorem dX7_batch_208 : decode cX7_batch 208 = .ok (.invokevirtual 54, 3) := by decide +kernel
theorem dX7_batch_211 : decode cX7_batch 211 = .ok (.aload_n 0, 1) := by decide +kernel
theorem dX7_batch_212 : decode cX7_batch 212 = .ok (.iload 6, 2) := by decide +kernel
theorem dX7_batch_214 : decode cX7_batch 214 = .ok (.bipush 8, 2) := by decide +kernel
theorem dX7_batch_216 : decode cX7_batch 216 = .ok (.iconst (-1), 1) := by decide +kernel
theorem dX7_batch_217 : decode cX7_batch 217 = .ok (.invokevirtual 54, 3) := by decide +kernel
theorem dX7_batch_220 : decode cX7_batch 220 = .ok (.aload_n 0, 1) := by decide +kernel
theorem dX7_batch_221 : decode cX7_batch 221 = .ok (.iload 6, 2) := by decide +kernel
theorem dX7_batch_223 : decode cX7_batch 223 = .ok (.bipush 9, 2) := by decide +kernel
theorem dX7_batch_225 : decode cX7_batch 225 = .ok (.iload_n 2, 1) := by decide +kernel
theorem dX7_batch_226 : decode cX7_batch 226 = .ok (.i2f, 1) := by decide +kernel
theorem dX7_batch_227 : decode cX7_batch 227 = .ok (.invokestatic 155, 3) := by decide +kernel
theorem dX7_batch_230 : decode cX7_batch 230 = .ok (.invokevirtual 54, 3) := by decide +kernel
theorem dX7_batch_233 : decode cX7_batch 233 = .ok (.iload 6, 2) := by decide +kernel
theorem dX7_batch_235 : decode cX7_batch 235 = .ok (.ireturn, 1) := by decide +kernel
theorem dX7_start_0 : decode cX7_start 0 = .ok (.aload_n 0, 1) := by decide +kernel
theorem dX7_start_1 : decode cX7_start 1 = .ok (.iload_n 1, 1) := by decide +kernel
theorem dX7_start_2 : decode cX7_start 2 = .ok (.invokevirtual 152, 3) := by decide +kernel
theorem dX7_start_5 : decode cX7_start 5 = .ok (.ifCond .ne 5, 3) := by decide +kernel
theorem dX7_start_8 : decode cX7_start 8 = .ok (.iconst (-1), 1) := by decide +kernel
theorem dX7_start_9 : decode cX7_start 9 = .ok (.ireturn, 1) := by decide +kernel
theorem dX7_start_10 : decode cX7_start 10 = .ok (.aload_n 0, 1) := by decide +kernel
theorem dX7_start_11 : decode cX7_start 11 = .ok (.iload_n 1, 1) := by decide +kernel
theorem dX7_start_12 : decode cX7_start 12 = .ok (.iconst 5, 1) := by decide +kernel
theorem dX7_start_13 : decode cX7_start 13 = .ok (.invokevirtual 40, 3) := by decide +kernel
theorem dX7_start_16 : decode cX7_start 16 = .ok (.ifCond .eq 6, 3) := by decide +kernel
theorem dX7_start_19 : decode cX7_start 19 = .ok (.bipush (-2), 2) := by decide +kernel
theorem dX7_start_21 : decode cX7_start 21 = .ok (.ireturn, 1) := by decide +kernel
theorem dX7_start_22 : decode cX7_start 22 = .ok (.aload_n 0, 1) := by decide +kernel
theorem dX7_start_23 : decode cX7_start 23 = .ok (.invokevirtual 44, 3) := by decide +kernel
theorem dX7_start_26 : decode cX7_start 26 = .ok (.aload_n 0, 1) := by decide +kernel
theorem dX7_start_27 : decode cX7_start 27 = .ok (.iload_n 1, 1) := by decide +kernel
theorem dX7_start_28 : decode cX7_start 28 = .ok (.iconst 5, 1) := by decide +kernel
theorem dX7_start_29 : decode cX7_start 29 = .ok (.iconst 1, 1) := by decide +kernel
theorem dX7_start_30 : decode cX7_start 30 = .ok (.invokevirtual 54, 3) := by decide +kernel
theorem dX7_start_33 : decode cX7_start 33 = .ok (.aload_n 0, 1) := by decide +kernel
theorem dX7_start_34 : decode cX7_start 34 = .ok (.iconst 1, 1) := by decide +kernel
theorem dX7_start_35 : decode cX7_start 35 = .ok (.invokevirtual 161, 3) := by decide +kernel
theorem dX7_start_38 : decode cX7_start 38 = .ok (.ireturn, 1) := by decide +kernel
theorem dX7_hold_0 : decode cX7_hold 0 = .ok (.aload_n 0, 1) := by decide +kernel
theorem dX7_hold_1 : decode cX7_hold 1 = .ok (.iload_n 1, 1) := by decide +kernel
theorem dX7_hold_2 : decode cX7_hold 2 = .ok (.invokevirtual 152, 3) := by decide +kernel
theorem dX7_hold_5 : decode cX7_hold 5 = .ok (.ifCond .ne 5, 3) := by decide +kernel
theorem dX7_hold_8 : decode cX7_hold 8 = .ok (.iconst (-1), 1) := by decide +kernel
theorem dX7_hold_9 : decode cX7_hold 9 = .ok (.ireturn, 1) := by decide +kernel
theorem dX7_hold_10 : decode cX7_hold 10 = .ok (.aload_n 0, 1) := by decide +kernel
theorem dX7_hold_11 : decode cX7_hold 11 = .ok (.iload_n 1, 1) := by decide +kernel
theorem dX7_hold_12 : decode cX7_hold 12 = .ok (.invokevirtual 72, 3) := by decide +kernel
theorem dX7_hold_15 : decode cX7_hold 15 = .ok (.ifCond .ne 6, 3) := by decide +kernel
theorem dX7_hold_18 : decode cX7_hold 18 = .ok (.bipush (-2), 2) := by decide +kernel
theorem dX7_hold_20 : decode cX7_hold 20 = .ok (.ireturn, 1) := by decide +kernel
theorem dX7_hold_21 : decode cX7_hold 21 = .ok (.aload_n 0, 1) := by decide +kernel
theorem dX7_hold_22 : decode cX7_hold 22 = .ok (.invokevirtual 44, 3) := by decide +kernel
theorem dX7_hold_25 : decode cX7_hold 25 = .ok (.aload_n 0, 1) := by decide +kernel
theorem dX7_hold_26 : decode cX7_hold 26 = .ok (.iload_n 1, 1) := by decide +kernel
theorem dX7_hold_27 : decode cX7_hold 27 = .ok (.invokevirtual 75, 3) := by decide +kernel
theorem dX7_hold_30 : decode cX7_hold 30 = .ok (.aload_n 0, 1) := by decide +kernel
theorem dX7_hold_31 : decode cX7_hold 31 = .ok (.iconst 2, 1) := by decide +kernel
theorem dX7_hold_32 : decode cX7_hold 32 = .ok (.invokevirtual 161, 3) := by decide +kernel
theorem dX7_hold_35 : decode cX7_hold 35 = .ok (.ireturn, 1) := by decide +kernel
theorem dX7_left_0 : decode cX7_left 0 = .ok (.aload_n 0, 1) := by decide +kernel
theorem dX7_left_1 : decode cX7_left 1 = .ok (.iload_n 1, 1) := by decide +kernel
theorem dX7_left_2 : decode cX7_left 2 = .ok (.invokevirtual 164, 3) := by decide +kernel
theorem dX7_left_5 : decode cX7_left 5 = .ok (.invokestatic 134, 3) := by decide +kernel
theorem dX7_left_8 : decode cX7_left 8 = .ok (.aload_n 0, 1) := by decide +kernel
theorem dX7_left_9 : decode cX7_left 9 = .ok (.iload_n 1, 1) := by decide +kernel
theorem dX7_left_10 : decode cX7_left 10 = .ok (.bipush 7, 2) := by decide +kernel
theorem dX7_left_12 : decode cX7_left 12 = .ok (.invokevirtual 40, 3) := by decide +kernel
theorem dX7_left_15 : decode cX7_left 15 = .ok (.isub, 1) := by decide +kernel
theorem dX7_left_16 : decode cX7_left 16 = .ok (.ireturn, 1) := by decide +kernel
theorem dX7_restart_0 : decode cX7_restart 0 = .ok (.aload_n 0, 1) := by decide +kernel
theorem dX7_restart_1 : decode cX7_restart 1 = .ok (.iload_n 1, 1) := by decide +kernel
theorem dX7_restart_2 : decode cX7_restart 2 = .ok (.invokevirtual 152, 3) := by decide +kernel
theorem dX7_restart_5 : decode cX7_restart 5 = .ok (.ifCond .ne 5, 3) := by decide +kernel
theorem dX7_restart_8 : decode cX7_restart 8 = .ok (.iconst (-1), 1) := by decide +kernel
theorem dX7_restart_9 : decode cX7_restart 9 = .ok (.ireturn, 1) := by decide +kernel
theorem dX7_restart_10 : decode cX7_restart 10 = .ok (.aload_n 0, 1) := by decide +kernel
theorem dX7_restart_11 : decode cX7_restart 11 = .ok (.iload_n 1, 1) := by decide +kernel
theorem dX7_restart_12 : decode cX7_restart 12 = .ok (.bipush 8, 2) := by decide +kernel
theorem dX7_restart_14 : decode cX7_restart 14 = .ok (.invokevirtual 40, 3) := by decide +kernel
theorem dX7_restart_17 : decode cX7_restart 17 = .ok (.istore_n 2, 1) := by decide +kernel
theorem dX7_restart_18 : decode cX7_restart 18 = .ok (.aload_n 0, 1) := by decide +kernel
theorem dX7_restart_19 : decode cX7_restart 19 = .ok (.iload_n 1, 1) := by decide +kernel
theorem dX7_restart_20 : decode cX7_restart 20 = .ok (.iconst 5, 1) := by decide +kernel
theorem dX7_restart_21 : decode cX7_restart 21 = .ok (.invokevirtual 40, 3) := by decide +kernel
theorem dX7_restart_24 : decode cX7_restart 24 = .ok (.iconst 2, 1) := by decide +kernel
theorem dX7_restart_25 : decode cX7_restart 25 = .ok (.if_icmp .ne 18, 3) := by decide +kernel
theorem dX7_restart_28 : decode cX7_restart 28 = .ok (.iload_n 2, 1) := by decide +kernel
theorem dX7_restart_29 : decode cX7_restart 29 = .ok (.iconst (-1), 1) := by decide +kernel
theorem dX7_restart_30 : decode cX7_restart 30 = .ok (.if_icmp .eq 16, 3) := by decide +kernel
theorem dX7_restart_33 : decode cX7_restart 33 = .ok (.aload_n 0, 1) := by decide +kernel
theorem dX7_restart_34 : decode cX7_restart 34 = .ok (.iload_n 2, 1) := by decide +kernel
theorem dX7_restart_35 : decode cX7_restart 35 = .ok (.iconst 3, 1) := by decide +kernel
theorem dX7_restart_36 : decode cX7_restart 36 = .ok (.invokevirtual 51, 3) := by decide +kernel
theorem dX7_restart_39 : decode cX7_restart 39 = .ok (.iconst 1, 1) := by decide +kernel
theorem dX7_restart_40 : decode cX7_restart 40 = .ok (.if_icmp .ne 6, 3) := by decide +kernel
theorem dX7_restart_43 : decode cX7_restart 43 = .ok (.bipush (-2), 2) := by decide +kernel
theorem dX7_restart_45 : decode cX7_restart 45 = .ok (.ireturn, 1) := by decide +kernel
theorem dX7_restart_46 : decode cX7_restart 46 = .ok (.aload_n 0, 1) := by decide +kernel
theorem dX7_restart_47 : decode cX7_restart 47 = .ok (.invokevirtual 44, 3) := by decide +kernel
theorem dX7_restart_50 : decode cX7_restart 50 = .ok (.aload_n 0, 1) := by decide +kernel
theorem dX7_restart_51 : decode cX7_restart 51 = .ok (.iload_n 1, 1) := by decide +kernel
theorem dX7_restart_52 : decode cX7_restart 52 = .ok (.iconst 5, 1) := by decide +kernel
theorem dX7_restart_53 : decode cX7_restart 53 = .ok (.iconst 1, 1) := by decide +kernel
theorem dX7_restart_54 : decode cX7_restart 54 = .ok (.invokevirtual 54, 3) := by decide +kernel
theorem dX7_restart_57 : decode cX7_restart 57 = .ok (.aload_n 0, 1) := by decide +kernel
theorem dX7_restart_58 : decode cX7_restart 58 = .ok (.iload_n 1, 1) := by decide +kernel
theorem dX7_restart_59 : decode cX7_restart 59 = .ok (.bipush 7, 2) := by decide +kernel
theorem dX7_restart_61 : decode cX7_restart 61 = .ok (.aload_n 0, 1) := by decide +kernel
theorem dX7_restart_62 : decode cX7_restart 62 = .ok (.iload_n 1, 1) := by decide +kernel
theorem dX7_restart_63 : decode cX7_restart 63 = .ok (.invokevirtual 164, 3) := by decide +kernel
theorem dX7_restart_66 : decode cX7_restart 66 = .ok (.invokestatic 143, 3) := by decide +kernel
theorem dX7_restart_69 : decode cX7_restart 69 = .ok (.iconst 1, 1) := by decide +kernel
theorem dX7_restart_70 : decode cX7_restart 70 = .ok (.if_icmp .ne 7, 3) := by decide +kernel
theorem dX7_restart_73 : decode cX7_restart 73 = .ok (.iconst 0, 1) := by decide +kernel
theorem dX7_restart_74 : decode cX7_restart 74 = .ok (.goto 10, 3) := by decide +kernel
theorem dX7_restart_77 : decode cX7_restart 77 = .ok (.aload_n 0, 1) := by decide +kernel
theorem dX7_restart_78 : decode cX7_restart 78 = .ok (.iload_n 1, 1) := by decide +kernel
theorem dX7_restart_79 : decode cX7_restart 79 = .ok (.bipush 7, 2) := by decide +kernel
theorem dX7_restart_81 : decode cX7_restart 81 = .ok (.invokevirtual 40, 3) := by decide +kernel
theorem dX7_restart_84 : decode cX7_restart 84 = .ok (.invokevirtual 54, 3) := by decide +kernel
theorem dX7_restart_87 : decode cX7_restart 87 = .ok (.aload_n 0, 1) := by decide +kernel
theorem dX7_restart_88 : decode cX7_restart 88 = .ok (.iload_n 1, 1) := by decide +kernel
theorem dX7_restart_89 : decode cX7_restart 89 = .ok (.iconst 3, 1) := by decide +kernel
theorem dX7_restart_90 : decode cX7_restart 90 = .ok (.invokevirtual 64, 3) := by decide +kernel
theorem dX7_restart_93 : decode cX7_restart 93 = .ok (.aload_n 0, 1) := by decide +kernel
theorem dX7_restart_94 : decode cX7_restart 94 = .ok (.iload_n 1, 1) := by decide +kernel
theorem dX7_restart_95 : decode cX7_restart 95 = .ok (.invokevirtual 167, 3) := by decide +kernel
theorem dX7_restart_98 : decode cX7_restart 98 = .ok (.ireturn, 1) := by decide +kernel
theorem dX7_stop_0 : decode cX7_stop 0 = .ok (.aload_n 0, 1) := by decide +kernel
theorem dX7_stop_1 : decode cX7_stop 1 = .ok (.iload_n 1, 1) := by decide +kernel
theorem dX7_stop_2 : decode cX7_stop 2 = .ok (.invokevirtual 152, 3) := by decide +kernel
theorem dX7_stop_5 : decode cX7_stop 5 = .ok (.ifCond .ne 5, 3) := by decide +kernel
theorem dX7_stop_8 : decode cX7_stop 8 = .ok (.iconst (-1), 1) := by decide +kernel
theorem dX7_stop_9 : decode cX7_stop 9 = .ok (.ireturn, 1) := by decide +kernel
theorem dX7_stop_10 : decode cX7_stop 10 = .ok (.aload_n 0, 1) := by decide +kernel
theorem dX7_stop_11 : decode cX7_stop 11 = .ok (.iload_n 1, 1) := by decide +kernel
theorem dX7_stop_12 : decode cX7_stop 12 = .ok (.iconst 5, 1) := by decide +kernel
theorem dX7_stop_13 : decode cX7_stop 13 = .ok (.invokevirtual 40, 3) := by decide +kernel
theorem dX7_stop_16 : decode cX7_stop 16 = .ok (.iconst 1, 1) := by decide +kernel
theorem dX7_stop_17 : decode cX7_stop 17 = .ok (.if_icmp .eq 16, 3) := by decide +kernel
theorem dX7_stop_20 : decode cX7_stop 20 = .ok (.aload_n 0, 1) := by decide +kernel
theorem dX7_stop_21 : decode cX7_stop 21 = .ok (.iload_n 1, 1) := by decide +kernel
theorem dX7_stop_22 : decode cX7_stop 22 = .ok (.iconst 5, 1) := by decide +kernel
theorem dX7_stop_23 : decode cX7_stop 23 = .ok (.invokevirtual 40, 3) := by decide +kernel
theorem dX7_stop_26 : decode cX7_stop 26 = .ok (.iconst 2, 1) := by decide +kernel
theorem dX7_stop_27 : decode cX7_stop 27 = .ok (.if_icmp .eq 6, 3) := by decide +kernel
theorem dX7_stop_30 : decode cX7_stop 30 = .ok (.bipush (-2), 2) := by decide +kernel
theorem dX7_stop_32 : decode cX7_stop 32 = .ok (.ireturn, 1) := by decide +kernel
theorem dX7_stop_33 : decode cX7_stop 33 = .ok (.aload_n 0, 1) := by decide +kernel
theorem dX7_stop_34 : decode cX7_stop 34 = .ok (.invokevirtual 44, 3) := by decide +kernel
theorem dX7_stop_37 : decode cX7_stop 37 = .ok (.aload_n 0, 1) := by decide +kernel
theorem dX7_stop_38 : decode cX7_stop 38 = .ok (.iload_n 1, 1) := by decide +kernel
theorem dX7_stop_39 : decode cX7_stop 39 = .ok (.iconst 5, 1) := by decide +kernel
theorem dX7_stop_40 : decode cX7_stop 40 = .ok (.invokevirtual 40, 3) := by decide +kernel
theorem dX7_stop_43 : decode cX7_stop 43 = .ok (.iconst 1, 1) := by decide +kernel
theorem dX7_stop_44 : decode cX7_stop 44 = .ok (.if_icmp .ne 23, 3) := by decide +kernel
theorem dX7_stop_47 : decode cX7_stop 47 = .ok (.aload_n 0, 1) := by decide +kernel
theorem dX7_stop_48 : decode cX7_stop 48 = .ok (.iload_n 1, 1) := by decide +kernel
theorem dX7_stop_49 : decode cX7_stop 49 = .ok (.bipush 7, 2) := by decide +kernel
theorem dX7_stop_51 : decode cX7_stop 51 = .ok (.invokevirtual 40, 3) := by decide +kernel
theorem dX7_stop_54 : decode cX7_stop 54 = .ok (.ifCond .le 13, 3) := by decide +kernel
theorem dX7_stop_57 : decode cX7_stop 57 = .ok (.aload_n 0, 1) := by decide +kernel
theorem dX7_stop_58 : decode cX7_stop 58 = .ok (.iload_n 1, 1) := by decide +kernel
theorem dX7_stop_59 : decode cX7_stop 59 = .ok (.iconst 5, 1) := by decide +kernel
theorem dX7_stop_60 : decode cX7_stop 60 = .ok (.iconst 3, 1) := by decide +kernel
theorem dX7_stop_61 : decode cX7_stop 61 = .ok (.invokevirtual 54, 3) := by decide +kernel
theorem dX7_stop_64 : decode cX7_stop 64 = .ok (.goto 10, 3) := by decide +kernel
theorem dX7_stop_67 : decode cX7_stop 67 = .ok (.aload_n 0, 1) := by decide +kernel
theorem dX7_stop_68 : decode cX7_stop 68 = .ok (.iload_n 1, 1) := by decide +kernel
theorem dX7_stop_69 : decode cX7_stop 69 = .ok (.iconst 4, 1) := by decide +kernel
theorem dX7_stop_70 : decode cX7_stop 70 = .ok (.iconst 4, 1) := by decide +kernel
theorem dX7_stop_71 : decode cX7_stop 71 = .ok (.invokevirtual 170, 3) := by decide +kernel
theorem dX7_stop_74 : decode cX7_stop 74 = .ok (.aload_n 0, 1) := by decide +kernel
theorem dX7_stop_75 : decode cX7_stop 75 = .ok (.iload_n 1, 1) := by decide +kernel
theorem dX7_stop_76 : decode cX7_stop 76 = .ok (.iconst 5, 1) := by decide +kernel
theorem dX7_stop_77 : decode cX7_stop 77 = .ok (.invokevirtual 40, 3) := by decide +kernel
theorem dX7_stop_80 : decode cX7_stop 80 = .ok (.ireturn, 1) := by decide +kernel
theorem dX7_abort_0 : decode cX7_abort 0 = .ok (.aload_n 0, 1) := by decide +kernel
theorem dX7_abort_1 : decode cX7_abort 1 = .ok (.iload_n 1, 1) := by decide +kernel
theorem dX7_abort_2 : decode cX7_abort 2 = .ok (.invokevirtual 152, 3) := by decide +kernel
theorem dX7_abort_5 : decode cX7_abort 5 = .ok (.ifCond .ne 5, 3) := by decide +kernel
theorem dX7_abort_8 : decode cX7_abort 8 = .ok (.iconst (-1), 1) := by decide +kernel
theorem dX7_abort_9 : decode cX7_abort 9 = .ok (.ireturn, 1) := by decide +kernel
theorem dX7_abort_10 : decode cX7_abort 10 = .ok (.aload_n 0, 1) := by decide +kernel
theorem dX7_abort_11 : decode cX7_abort 11 = .ok (.iload_n 1, 1) := by decide +kernel
theorem dX7_abort_12 : decode cX7_abort 12 = .ok (.iconst 5, 1) := by decide +kernel
theorem dX7_abort_13 : decode cX7_abort 13 = .ok (.invokevirtual 40, 3) := by decide +kernel
theorem dX7_abort_16 : decode cX7_abort 16 = .ok (.iconst 4, 1) := by decide +kernel
theorem dX7_abort_17 : decode cX7_abort 17 = .ok (.if_icmp .lt 6, 3) := by decide +kernel
theorem dX7_abort_20 : decode cX7_abort 20 = .ok (.bipush (-2), 2) := by decide +kernel
theorem dX7_abort_22 : decode cX7_abort 22 = .ok (.ireturn, 1) := by decide +kernel
theorem dX7_abort_23 : decode cX7_abort 23 = .ok (.aload_n 0, 1) := by decide +kernel
theorem dX7_abort_24 : decode cX7_abort 24 = .ok (.invokevirtual 44, 3) := by decide +kernel
theorem dX7_abort_27 : decode cX7_abort 27 = .ok (.iconst 0, 1) := by decide +kernel
theorem dX7_abort_28 : decode cX7_abort 28 = .ok (.istore_n 2, 1) := by decide +kernel
theorem dX7_abort_29 : decode cX7_abort 29 = .ok (.iconst 0, 1) := by decide +kernel
theorem dX7_abort_30 : decode cX7_abort 30 = .ok (.istore_n 3, 1) := by decide +kernel
theorem dX7_abort_31 : decode cX7_abort 31 = .ok (.iload_n 1, 1) := by decide +kernel
theorem dX7_abort_32 : decode cX7_abort 32 = .ok (.istore 4, 2) := by decide +kernel
theorem dX7_abort_34 : decode cX7_abort 34 = .ok (.iload 4, 2) := by decide +kernel
theorem dX7_abort_36 : decode cX7_abort 36 = .ok (.aload_n 0, 1) := by decide +kernel
theorem dX7_abort_37 : decode cX7_abort 37 = .ok (.getfield 7, 3) := by decide +kernel
theorem dX7_abort_40 : decode cX7_abort 40 = .ok (.iconst 3, 1) := by decide +kernel
theorem dX7_abort_41 : decode cX7_abort 41 = .ok (.iaload, 1) := by decide +kernel
theorem dX7_abort_42 : decode cX7_abort 42 = .ok (.if_icmp .ge 82, 3) := by decide +kernel
theorem dX7_abort_45 : decode cX7_abort 45 = .ok (.aload_n 0, 1) := by decide +kernel
theorem dX7_abort_46 : decode cX7_abort 46 = .ok (.iload 4, 2) := by decide +kernel
theorem dX7_abort_48 : decode cX7_abort 48 = .ok (.iconst 4, 1) := by decide +kernel
theorem dX7_abort_49 : decode cX7_abort 49 = .ok (.invokevirtual 40, 3) := by decide +kernel
theorem dX7_abort_52 : decode cX7_abort 52 = .ok (.iconst (-1), 1) := by decide +kernel
theorem dX7_abort_53 : decode cX7_abort 53 = .ok (.if_icmp .eq 22, 3) := by decide +kernel
theorem dX7_abort_56 : decode cX7_abort 56 = .ok (.iload_n 2, 1) := by decide +kernel
theorem dX7_abort_57 : decode cX7_abort 57 = .ok (.aload_n 0, 1) := by decide +kernel
theorem dX7_abort_58 : decode cX7_abort 58 = .ok (.iload 4, 2) := by decide +kernel
theorem dX7_abort_60 : decode cX7_abort 60 = .ok (.iconst 4, 1) := by decide +kernel
theorem dX7_abort_61 : decode cX7_abort 61 = .ok (.invokevirtual 40, 3) := by decide +kernel
theorem dX7_abort_64 : decode cX7_abort 64 = .ok (.ishr, 1) := by decide +kernel
theorem dX7_abort_65 : decode cX7_abort 65 = .ok (.iconst 1, 1) := by decide +kernel
theorem dX7_abort_66 : decode cX7_abort 66 = .ok (.iand, 1) := by decide +kernel
theorem dX7_abort_67 : decode cX7_abort 67 = .ok (.iconst 1, 1) := by decide +kernel
theorem dX7_abort_68 : decode cX7_abort 68 = .ok (.if_icmp .ne 7, 3) := by decide +kernel
theorem dX7_abort_71 : decode cX7_abort 71 = .ok (.iconst 1, 1) := by decide +kernel
theorem dX7_abort_72 : decode cX7_abort 72 = .ok (.goto 4, 3) := by decide +kernel
theorem dX7_abort_75 : decode cX7_abort 75 = .ok (.iconst 0, 1) := by decide +kernel
theorem dX7_abort_76 : decode cX7_abort 76 = .ok (.istore 5, 2) := by decide +kernel
theorem dX7_abort_78 : decode cX7_abort 78 = .ok (.iload 4, 2) := by decide +kernel
theorem dX7_abort_80 : decode cX7_abort 80 = .ok (.iload_n 1, 1) := by decide +kernel
theorem dX7_abort_81 : decode cX7_abort 81 = .ok (.if_icmp .eq 19, 3) := by decide +kernel
theorem dX7_abort_84 : decode cX7_abort 84 = .ok (.iload 5, 2) := by decide +kernel
theorem dX7_abort_86 : decode cX7_abort 86 = .ok (.ifCond .eq 32, 3) := by decide +kernel
theorem dX7_abort_89 : decode cX7_abort 89 = .ok (.aload_n 0, 1) := by decide +kernel
theorem dX7_abort_90 : decode cX7_abort 90 = .ok (.iload 4, 2) := by decide +kernel
theorem dX7_abort_92 : decode cX7_abort 92 = .ok (.iconst 5, 1) := by decide +kernel
theorem dX7_abort_93 : decode cX7_abort 93 = .ok (.invokevirtual 40, 3) := by decide +kernel
theorem dX7_abort_96 : decode cX7_abort 96 = .ok (.iconst 4, 1) := by decide +kernel
theorem dX7_abort_97 : decode cX7_abort 97 = .ok (.if_icmp .ge 21, 3) := by decide +kernel
theorem dX7_abort_100 : decode cX7_abort 100 = .ok (.aload_n 0, 1) := by decide +kernel
theorem dX7_abort_101 : decode cX7_abort 101 = .ok (.iload 4, 2) := by decide +kernel
theorem dX7_abort_103 : decode cX7_abort 103 = .ok (.iconst 5, 1) := by decide +kernel
theorem dX7_abort_104 : decode cX7_abort 104 = .ok (.iconst 5, 1) := by decide +kernel
theorem dX7_abort_105 : decode cX7_abort 105 = .ok (.invokevirtual 170, 3) := by decide +kernel
theorem dX7_abort_108 : decode cX7_abort 108 = .ok (.iload_n 2, 1) := by decide +kernel
theorem dX7_abort_109 : decode cX7_abort 109 = .ok (.iconst 1, 1) := by decide +kernel
theorem dX7_abort_110 : decode cX7_abort 110 = .ok (.iload 4, 2) := by decide +kernel
theorem dX7_abort_112 : decode cX7_abort 112 = .ok (.ishl, 1) := by decide +kernel
theorem dX7_abort_113 : decode cX7_abort 113 = .ok (.ior, 1) := by decide +kernel
theorem dX7_abort_114 : decode cX7_abort 114 = .ok (.istore_n 2, 1) := by decide +kernel
theorem dX7_abort_115 : decode cX7_abort 115 = .ok (.iinc 3 1, 3) := by decide +kernel
theorem dX7_abort_118 : decode cX7_abort 118 = .ok (.iinc 4 1, 3) := by decide +kernel
theorem dX7_abort_121 : decode cX7_abort 121 = .ok (.goto (-87), 3) := by decide +kernel
theorem dX7_abort_124 : decode cX7_abort 124 = .ok (.iload_n 3, 1) := by decide +kernel
theorem dX7_abort_125 : decode cX7_abort 125 = .ok (.ireturn, 1) := by decide +kernel
theorem dX7_priority_0 : decode cX7_priority 0 = .ok (.aload_n 0, 1) := by decide +kernel
theorem dX7_priority_1 : decode cX7_priority 1 = .ok (.iload_n 1, 1) := by decide +kernel
theorem dX7_priority_2 : decode cX7_priority 2 = .ok (.invokevirtual 152, 3) := by decide +kernel
theorem dX7_priority_5 : decode cX7_priority 5 = .ok (.ifCond .eq 13, 3) := by decide +kernel
theorem dX7_priority_8 : decode cX7_priority 8 = .ok (.iload_n 2, 1) := by decide +kernel
theorem dX7_priority_9 : decode cX7_priority 9 = .ok (.iconst 0, 1) := by decide +kernel
theorem dX7_priority_10 : decode cX7_priority 10 = .ok (.bipush 9, 2) := by decide +kernel
theorem dX7_priority_12 : decode cX7_priority 12 = .ok (.invokestatic 36, 3) := by decide +kernel
theorem dX7_priority_15 : decode cX7_priority 15 = .ok (.ifCond .ne 5, 3) := by decide +kernel
theorem dX7_priority_18 : decode cX7_priority 18 = .ok (.iconst (-1), 1) := by decide +kernel
theorem dX7_priority_19 : decode cX7_priority 19 = .ok (.ireturn, 1) := by decide +kernel
theorem dX7_priority_20 : decode cX7_priority 20 = .ok (.aload_n 0, 1) := by decide +kernel
theorem dX7_priority_21 : decode cX7_priority 21 = .ok (.invokevirtual 44, 3) := by decide +kernel
theorem dX7_priority_24 : decode cX7_priority 24 = .ok (.aload_n 0, 1) := by decide +kernel
theorem dX7_priority_25 : decode cX7_priority 25 = .ok (.iload_n 1, 1) := by decide +kernel
theorem dX7_priority_26 : decode cX7_priority 26 = .ok (.iconst 3, 1) := by decide +kernel
theorem dX7_priority_27 : decode cX7_priority 27 = .ok (.invokevirtual 40, 3) := by decide +kernel
theorem dX7_priority_30 : decode cX7_priority 30 = .ok (.istore_n 3, 1) := by decide +kernel
theorem dX7_priority_31 : decode cX7_priority 31 = .ok (.aload_n 0, 1) := by decide +kernel
theorem dX7_priority_32 : decode cX7_priority 32 = .ok (.iload_n 1, 1) := by decide +kernel
theorem dX7_priority_33 : decode cX7_priority 33 = .ok (.iconst 3, 1) := by decide +kernel
theorem dX7_priority_34 : decode cX7_priority 34 = .ok (.iload_n 2, 1) := by decide +kernel
theorem dX7_priority_35 : decode cX7_priority 35 = .ok (.invokevirtual 54, 3) := by decide +kernel
theorem dX7_priority_38 : decode cX7_priority 38 = .ok (.iload_n 3, 1) := by decide +kernel
theorem dX7_priority_39 : decode cX7_priority 39 = .ok (.ireturn, 1) := by decide +kernel
theorem dX7_batchOf_0 : decode cX7_batchOf 0 = .ok (.iload_n 2, 1) := by decide +kernel
theorem dX7_batchOf_1 : decode cX7_batchOf 1 = .ok (.tableswitch 175 4 11 #[47, 175, 69, 93, 115, 139, 155, 163], 47) := by decide +kernel
theorem dX7_batchOf_48 : decode cX7_batchOf 48 = .ok (.aload_n 0, 1) := by decide +kernel
theorem dX7_batchOf_49 : decode cX7_batchOf 49 = .ok (.iload_n 1, 1) := by decide +kernel
theorem dX7_batchOf_50 : decode cX7_batchOf 50 = .ok (.iconst 4, 1) := by decide +kernel
theorem dX7_batchOf_51 : decode cX7_batchOf 51 = .ok (.invokevirtual 40, 3) := by decide +kernel
theorem dX7_batchOf_54 : decode cX7_batchOf 54 = .ok (.iconst (-1), 1) := by decide +kernel
theorem dX7_batchOf_55 : decode cX7_batchOf 55 = .ok (.if_icmp .ne 8, 3) := by decide +kernel
theorem dX7_batchOf_58 : decode cX7_batchOf 58 = .ok (.bipush (-4), 2) := by decide +kernel
theorem dX7_batchOf_60 : decode cX7_batchOf 60 = .ok (.goto 9, 3) := by decide +kernel
theorem dX7_batchOf_63 : decode cX7_batchOf 63 = .ok (.aload_n 0, 1) := by decide +kernel
theorem dX7_batchOf_64 : decode cX7_batchOf 64 = .ok (.iload_n 1, 1) := by decide +kernel
theorem dX7_batchOf_65 : decode cX7_batchOf 65 = .ok (.iconst 4, 1) := by decide +kernel
theorem dX7_batchOf_66 : decode cX7_batchOf 66 = .ok (.invokevirtual 40, 3) := by decide +kernel
theorem dX7_batchOf_69 : decode cX7_batchOf 69 = .ok (.ireturn, 1) := by decide +kernel
theorem dX7_batchOf_70 : decode cX7_batchOf 70 = .ok (.aload_n 0, 1) := by decide +kernel
theorem dX7_batchOf_71 : decode cX7_batchOf 71 = .ok (.iload_n 1, 1) := by decide +kernel
theorem dX7_batchOf_72 : decode cX7_batchOf 72 = .ok (.iconst 5, 1) := by decide +kernel
theorem dX7_batchOf_73 : decode cX7_batchOf 73 = .ok (.invokevirtual 40, 3) := by decide +kernel
theorem dX7_batchOf_76 : decode cX7_batchOf 76 = .ok (.bipush 6, 2) := by decide +kernel
theorem dX7_batchOf_78 : decode cX7_batchOf 78 = .ok (.if_icmp .ne 8, 3) := by decide +kernel
theorem dX7_batchOf_81 : decode cX7_batchOf 81 = .ok (.bipush (-4), 2) := by decide +kernel
theorem dX7_batchOf_83 : decode cX7_batchOf 83 = .ok (.goto 10, 3) := by decide +kernel
theorem dX7_batchOf_86 : decode cX7_batchOf 86 = .ok (.aload_n 0, 1) := by decide +kernel
theorem dX7_batchOf_87 : decode cX7_batchOf 87 = .ok (.iload_n 1, 1) := by decide +kernel
theorem dX7_batchOf_88 : decode cX7_batchOf 88 = .ok (.bipush 6, 2) := by decide +kernel
theorem dX7_batchOf_90 : decode cX7_batchOf 90 = .ok (.invokevirtual 40, 3) := by decide +kernel
theorem dX7_batchOf_93 : decode cX7_batchOf 93 = .ok (.ireturn, 1) := by decide +kernel
theorem dX7_batchOf_94 : decode cX7_batchOf 94 = .ok (.aload_n 0, 1) := by decide +kernel
theorem dX7_batchOf_95 : decode cX7_batchOf 95 = .ok (.iload_n 1, 1) := by decide +kernel
theorem dX7_batchOf_96 : decode cX7_batchOf 96 = .ok (.iconst 5, 1) := by decide +kernel
theorem dX7_batchOf_97 : decode cX7_batchOf 97 = .ok (.invokevirtual 40, 3) := by decide +kernel
theorem dX7_batchOf_100 : decode cX7_batchOf 100 = .ok (.bipush 6, 2) := by decide +kernel
theorem dX7_batchOf_102 : decode cX7_batchOf 102 = .ok (.if_icmp .ne 8, 3) := by decide +kernel
theorem dX7_batchOf_105 : decode cX7_batchOf 105 = .ok (.bipush (-4), 2) := by decide +kernel
theorem dX7_batchOf_107 : decode cX7_batchOf 107 = .ok (.goto 8, 3) := by decide +kernel
theorem dX7_batchOf_110 : decode cX7_batchOf 110 = .ok (.aload_n 0, 1) := by decide +kernel
theorem dX7_batchOf_111 : decode cX7_batchOf 111 = .ok (.iload_n 1, 1) := by decide +kernel
theorem dX7_batchOf_112 : decode cX7_batchOf 112 = .ok (.invokevirtual 167, 3) := by decide +kernel
theorem dX7_batchOf_115 : decode cX7_batchOf 115 = .ok (.ireturn, 1) := by decide +kernel
theorem dX7_batchOf_116 : decode cX7_batchOf 116 = .ok (.aload_n 0, 1) := by decide +kernel
theorem dX7_batchOf_117 : decode cX7_batchOf 117 = .ok (.iload_n 1, 1) := by decide +kernel
theorem dX7_batchOf_118 : decode cX7_batchOf 118 = .ok (.bipush 8, 2) := by decide +kernel
theorem dX7_batchOf_120 : decode cX7_batchOf 120 = .ok (.invokevirtual 40, 3) := by decide +kernel
theorem dX7_batchOf_123 : decode cX7_batchOf 123 = .ok (.iconst (-1), 1) := by decide +kernel
theorem dX7_batchOf_124 : decode cX7_batchOf 124 = .ok (.if_icmp .ne 8, 3) := by decide +kernel
theorem dX7_batchOf_127 : decode cX7_batchOf 127 = .ok (.bipush (-4), 2) := by decide +kernel
theorem dX7_batchOf_129 : decode cX7_batchOf 129 = .ok (.goto 10, 3) := by decide +kernel
theorem dX7_batchOf_132 : decode cX7_batchOf 132 = .ok (.aload_n 0, 1) := by decide +kernel
theorem dX7_batchOf_133 : decode cX7_batchOf 133 = .ok (.iload_n 1, 1) := by decide +kernel
theorem dX7_batchOf_134 : decode cX7_batchOf 134 = .ok (.bipush 8, 2) := by decide +kernel
theorem dX7_batchOf_136 : decode cX7_batchOf 136 = .ok (.invokevirtual 40, 3) := by decide +kernel
theorem dX7_batchOf_139 : decode cX7_batchOf 139 = .ok (.ireturn, 1) := by decide +kernel
theorem dX7_batchOf_140 : decode cX7_batchOf 140 = .ok (.aload_n 0, 1) := by decide +kernel
theorem dX7_batchOf_141 : decode cX7_batchOf 141 = .ok (.iload_n 1, 1) := by decide +kernel
theorem dX7_batchOf_142 : decode cX7_batchOf 142 = .ok (.bipush 7, 2) := by decide +kernel
theorem dX7_batchOf_144 : decode cX7_batchOf 144 = .ok (.invokevirtual 40, 3) := by decide +kernel
theorem dX7_batchOf_147 : decode cX7_batchOf 147 = .ok (.ifCond .le 7, 3) := by decide +kernel
theorem dX7_batchOf_150 : decode cX7_batchOf 150 = .ok (.iconst 1, 1) := by decide +kernel
theorem dX7_batchOf_151 : decode cX7_batchOf 151 = .ok (.goto 4, 3) := by decide +kernel
theorem dX7_batchOf_154 : decode cX7_batchOf 154 = .ok (.iconst 0, 1) := by decide +kernel
theorem dX7_batchOf_155 : decode cX7_batchOf 155 = .ok (.ireturn, 1) := by decide +kernel
theorem dX7_batchOf_156 : decode cX7_batchOf 156 = .ok (.aload_n 0, 1) := by decide +kernel
theorem dX7_batchOf_157 : decode cX7_batchOf 157 = .ok (.iload_n 1, 1) := by decide +kernel
theorem dX7_batchOf_158 : decode cX7_batchOf 158 = .ok (.bipush 9, 2) := by decide +kernel
theorem dX7_batchOf_160 : decode cX7_batchOf 160 = .ok (.invokevirtual 40, 3) := by decide +kernel
theorem dX7_batchOf_163 : decode cX7_batchOf 163 = .ok (.ireturn, 1) := by decide +kernel
theorem dX7_batchOf_164 : decode cX7_batchOf 164 = .ok (.aload_n 0, 1) := by decide +kernel
theorem dX7_batchOf_165 : decode cX7_batchOf 165 = .ok (.iload_n 1, 1) := by decide +kernel
theorem dX7_batchOf_166 : decode cX7_batchOf 166 = .ok (.bipush 9, 2) := by decide +kernel
theorem dX7_batchOf_168 : decode cX7_batchOf 168 = .ok (.invokevirtual 40, 3) := by decide +kernel
theorem dX7_batchOf_171 : decode cX7_batchOf 171 = .ok (.invokestatic 173, 3) := by decide +kernel
theorem dX7_batchOf_174 : decode cX7_batchOf 174 = .ok (.f2i, 1) := by decide +kernel
theorem dX7_batchOf_175 : decode cX7_batchOf 175 = .ok (.ireturn, 1) := by decide +kernel
theorem dX7_batchOf_176 : decode cX7_batchOf 176 = .ok (.aload_n 0, 1) := by decide +kernel
theorem dX7_batchOf_177 : decode cX7_batchOf 177 = .ok (.iload_n 1, 1) := by decide +kernel
theorem dX7_batchOf_178 : decode cX7_batchOf 178 = .ok (.iload_n 2, 1) := by decide +kernel
theorem dX7_batchOf_179 : decode cX7_batchOf 179 = .ok (.invokevirtual 40, 3) := by decide +kernel
theorem dX7_batchOf_182 : decode cX7_batchOf 182 = .ok (.ireturn, 1) := by decide +kernel
theorem dX7_batchInfo_0 : decode cX7_batchInfo 0 = .ok (.aload_n 0, 1) := by decide +kernel
theorem dX7_batchInfo_1 : decode cX7_batchInfo 1 = .ok (.iload_n 1, 1) := by decide +kernel
theorem dX7_batchInfo_2 : decode cX7_batchInfo 2 = .ok (.invokevirtual 152, 3) := by decide +kernel
theorem dX7_batchInfo_5 : decode cX7_batchInfo 5 = .ok (.ifCond .eq 22, 3) := by decide +kernel
theorem dX7_batchInfo_8 : decode cX7_batchInfo 8 = .ok (.iload_n 2, 1) := by decide +kernel
theorem dX7_batchInfo_9 : decode cX7_batchInfo 9 = .ok (.iconst 0, 1) := by decide +kernel
theorem dX7_batchInfo_10 : decode cX7_batchInfo 10 = .ok (.bipush 11, 2) := by decide +kernel
theorem dX7_batchInfo_12 : decode cX7_batchInfo 12 = .ok (.invokestatic 36, 3) := by decide +kernel
theorem dX7_batchInfo_15 : decode cX7_batchInfo 15 = .ok (.ifCond .eq 12, 3) := by decide +kernel
theorem dX7_batchInfo_18 : decode cX7_batchInfo 18 = .ok (.aload_n 0, 1) := by decide +kernel
theorem dX7_batchInfo_19 : decode cX7_batchInfo 19 = .ok (.iload_n 1, 1) := by decide +kernel
theorem dX7_batchInfo_20 : decode cX7_batchInfo 20 = .ok (.iload_n 2, 1) := by decide +kernel
theorem dX7_batchInfo_21 : decode cX7_batchInfo 21 = .ok (.invokevirtual 177, 3) := by decide +kernel
theorem dX7_batchInfo_24 : decode cX7_batchInfo 24 = .ok (.goto 4, 3) := by decide +kernel
theorem dX7_batchInfo_27 : decode cX7_batchInfo 27 = .ok (.iconst (-1), 1) := by decide +kernel
theorem dX7_batchInfo_28 : decode cX7_batchInfo 28 = .ok (.ireturn, 1) := by decide +kernel
theorem dX7_unitFor_0 : decode cX7_unitFor 0 = .ok (.iconst 0, 1) := by decide +kernel
theorem dX7_unitFor_1 : decode cX7_unitFor 1 = .ok (.istore_n 3, 1) := by decide +kernel
theorem dX7_unitFor_2 : decode cX7_unitFor 2 = .ok (.iload_n 3, 1) := by decide +kernel
theorem dX7_unitFor_3 : decode cX7_unitFor 3 = .ok (.aload_n 0, 1) := by decide +kernel
theorem dX7_unitFor_4 : decode cX7_unitFor 4 = .ok (.getfield 7, 3) := by decide +kernel
theorem dX7_unitFor_7 : decode cX7_unitFor 7 = .ok (.iconst 2, 1) := by decide +kernel
theorem dX7_unitFor_8 : decode cX7_unitFor 8 = .ok (.iaload, 1) := by decide +kernel
theorem dX7_unitFor_9 : decode cX7_unitFor 9 = .ok (.if_icmp .ge 44, 3) := by decide +kernel
theorem dX7_unitFor_12 : decode cX7_unitFor 12 = .ok (.aload_n 0, 1) := by decide +kernel
theorem dX7_unitFor_13 : decode cX7_unitFor 13 = .ok (.iload_n 3, 1) := by decide +kernel
theorem dX7_unitFor_14 : decode cX7_unitFor 14 = .ok (.invokevirtual 82, 3) := by decide +kernel
theorem dX7_unitFor_17 : decode cX7_unitFor 17 = .ok (.ifCond .eq 30, 3) := by decide +kernel
theorem dX7_unitFor_20 : decode cX7_unitFor 20 = .ok (.aload_n 0, 1) := by decide +kernel
theorem dX7_unitFor_21 : decode cX7_unitFor 21 = .ok (.iload_n 3, 1) := by decide +kernel
theorem dX7_unitFor_22 : decode cX7_unitFor 22 = .ok (.iconst 0, 1) := by decide +kernel
theorem dX7_unitFor_23 : decode cX7_unitFor 23 = .ok (.invokevirtual 51, 3) := by decide +kernel
theorem dX7_unitFor_26 : decode cX7_unitFor 26 = .ok (.iload_n 2, 1) := by decide +kernel
theorem dX7_unitFor_27 : decode cX7_unitFor 27 = .ok (.if_icmp .ne 20, 3) := by decide +kernel
theorem dX7_unitFor_30 : decode cX7_unitFor 30 = .ok (.aload_n 0, 1) := by decide +kernel
theorem dX7_unitFor_31 : decode cX7_unitFor 31 = .ok (.iload_n 3, 1) := by decide +kernel
theorem dX7_unitFor_32 : decode cX7_unitFor 32 = .ok (.iconst 1, 1) := by decide +kernel
theorem dX7_unitFor_33 : decode cX7_unitFor 33 = .ok (.invokevirtual 51, 3) := by decide +kernel
theorem dX7_unitFor_36 : decode cX7_unitFor 36 = .ok (.aload_n 0, 1) := by decide +kernel
theorem dX7_unitFor_37 : decode cX7_unitFor 37 = .ok (.iload_n 1, 1) := by decide +kernel
theorem dX7_unitFor_38 : decode cX7_unitFor 38 = .ok (.iconst 2, 1) := by decide +kernel
theorem dX7_unitFor_39 : decode cX7_unitFor 39 = .ok (.invokevirtual 40, 3) := by decide +kernel
theorem dX7_unitFor_42 : decode cX7_unitFor 42 = .ok (.if_icmp .lt 5, 3) := by decide +kernel
theorem dX7_unitFor_45 : decode cX7_unitFor 45 = .ok (.iload_n 3, 1) := by decide +kernel
theorem dX7_unitFor_46 : decode cX7_unitFor 46 = .ok (.ireturn, 1) := by decide +kernel
theorem dX7_unitFor_47 : decode cX7_unitFor 47 = .ok (.iinc 3 1, 3) := by decide +kernel
theorem dX7_unitFor_50 : decode cX7_unitFor 50 = .ok (.goto (-48), 3) := by decide +kernel
theorem dX7_unitFor_53 : decode cX7_unitFor 53 = .ok (.iconst (-1), 1) := by decide +kernel
theorem dX7_unitFor_54 : decode cX7_unitFor 54 = .ok (.ireturn, 1) := by decide +kernel
theorem dX7_waitsForOther_0 : decode cX7_waitsForOther 0 = .ok (.aload_n 0, 1) := by decide +kernel
theorem dX7_waitsForOther_1 : decode cX7_waitsForOther 1 = .ok (.iload_n 1, 1) := by decide +kernel
theorem dX7_waitsForOther_2 : decode cX7_waitsForOther 2 = .ok (.iconst 4, 1) := by decide +kernel
theorem dX7_waitsForOther_3 : decode cX7_waitsForOther 3 = .ok (.invokevirtual 40, 3) := by decide +kernel
theorem dX7_waitsForOther_6 : decode cX7_waitsForOther 6 = .ok (.istore_n 2, 1) := by decide +kernel
theorem dX7_waitsForOther_7 : decode cX7_waitsForOther 7 = .ok (.aload_n 0, 1) := by decide +kernel
theorem dX7_waitsForOther_8 : decode cX7_waitsForOther 8 = .ok (.iload_n 1, 1) := by decide +kernel
theorem dX7_waitsForOther_9 : decode cX7_waitsForOther 9 = .ok (.bipush 6, 2) := by decide +kernel
theorem dX7_waitsForOther_11 : decode cX7_waitsForOther 11 = .ok (.invokevirtual 40, 3) := by decide +kernel
theorem dX7_waitsForOther_14 : decode cX7_waitsForOther 14 = .ok (.ifCond .ne 33, 3) := by decide +kernel
theorem dX7_waitsForOther_17 : decode cX7_waitsForOther 17 = .ok (.aload_n 0, 1) := by decide +kernel
theorem dX7_waitsForOther_18 : decode cX7_waitsForOther 18 = .ok (.iload_n 1, 1) := by decide +kernel
theorem dX7_waitsForOther_19 : decode cX7_waitsForOther 19 = .ok (.bipush 7, 2) := by decide +kernel
theorem dX7_waitsForOther_21 : decode cX7_waitsForOther 21 = .ok (.invokevirtual 40, 3) := by decide +kernel
theorem dX7_waitsForOther_24 : decode cX7_waitsForOther 24 = .ok (.ifCond .ne 23, 3) := by decide +kernel
theorem dX7_waitsForOther_27 : decode cX7_waitsForOther 27 = .ok (.iload_n 2, 1) := by decide +kernel
theorem dX7_waitsForOther_28 : decode cX7_waitsForOther 28 = .ok (.iconst (-1), 1) := by decide +kernel
theorem dX7_waitsForOther_29 : decode cX7_waitsForOther 29 = .ok (.if_icmp .eq 18, 3) := by decide +kernel
theorem dX7_waitsForOther_32 : decode cX7_waitsForOther 32 = .ok (.aload_n 0, 1) := by decide +kernel
theorem dX7_waitsForOther_33 : decode cX7_waitsForOther 33 = .ok (.iload_n 2, 1) := by decide +kernel
theorem dX7_waitsForOther_34 : decode cX7_waitsForOther 34 = .ok (.iconst 5, 1) := by decide +kernel
theorem dX7_waitsForOther_35 : decode cX7_waitsForOther 35 = .ok (.invokevirtual 40, 3) := by decide +kernel
theorem dX7_waitsForOther_38 : decode cX7_waitsForOther 38 = .ok (.bipush 6, 2) := by decide +kernel
theorem dX7_waitsForOther_40 : decode cX7_waitsForOther 40 = .ok (.if_icmp .eq 7, 3) := by decide +kernel
theorem dX7_waitsForOther_43 : decode cX7_waitsForOther 43 = .ok (.iconst 1, 1) := by decide +kernel
theorem dX7_waitsForOther_44 : decode cX7_waitsForOther 44 = .ok (.goto 4, 3) := by decide +kernel
theorem dX7_waitsForOther_47 : decode cX7_waitsForOther 47 = .ok (.iconst 0, 1) := by decide +kernel
theorem dX7_waitsForOther_48 : decode cX7_waitsForOther 48 = .ok (.ireturn, 1) := by decide +kernel
theorem dX7_waitsForShared_0 : decode cX7_waitsForShared 0 = .ok (.aload_n 0, 1) := by decide +kernel
theorem dX7_waitsForShared_1 : decode cX7_waitsForShared 1 = .ok (.iload_n 1, 1) := by decide +kernel
theorem dX7_waitsForShared_2 : decode cX7_waitsForShared 2 = .ok (.invokevirtual 164, 3) := by decide +kernel
theorem dX7_waitsForShared_5 : decode cX7_waitsForShared 5 = .ok (.invokestatic 137, 3) := by decide +kernel
theorem dX7_waitsForShared_8 : decode cX7_waitsForShared 8 = .ok (.istore_n 2, 1) := by decide +kernel
theorem dX7_waitsForShared_9 : decode cX7_waitsForShared 9 = .ok (.iload_n 2, 1) := by decide +kernel
theorem dX7_waitsForShared_10 : decode cX7_waitsForShared 10 = .ok (.iconst (-1), 1) := by decide +kernel
theorem dX7_waitsForShared_11 : decode cX7_waitsForShared 11 = .ok (.if_icmp .eq 33, 3) := by decide +kernel
theorem dX7_waitsForShared_14 : decode cX7_waitsForShared 14 = .ok (.aload_n 0, 1) := by decide +kernel
theorem dX7_waitsForShared_15 : decode cX7_waitsForShared 15 = .ok (.getfield 7, 3) := by decide +kernel
theorem dX7_waitsForShared_18 : decode cX7_waitsForShared 18 = .ok (.bipush 53, 2) := by decide +kernel
theorem dX7_waitsForShared_20 : decode cX7_waitsForShared 20 = .ok (.iload_n 2, 1) := by decide +kernel
theorem dX7_waitsForShared_21 : decode cX7_waitsForShared 21 = .ok (.iadd, 1) := by decide +kernel
theorem dX7_waitsForShared_22 : decode cX7_waitsForShared 22 = .ok (.iaload, 1) := by decide +kernel
theorem dX7_waitsForShared_23 : decode cX7_waitsForShared 23 = .ok (.iconst (-1), 1) := by decide +kernel
theorem dX7_waitsForShared_24 : decode cX7_waitsForShared 24 = .ok (.if_icmp .eq 20, 3) := by decide +kernel
theorem dX7_waitsForShared_27 : decode cX7_waitsForShared 27 = .ok (.aload_n 0, 1) := by decide +kernel
theorem dX7_waitsForShared_28 : decode cX7_waitsForShared 28 = .ok (.getfield 7, 3) := by decide +kernel
theorem dX7_waitsForShared_31 : decode cX7_waitsForShared 31 = .ok (.bipush 53, 2) := by decide +kernel
theorem dX7_waitsForShared_33 : decode cX7_waitsForShared 33 = .ok (.iload_n 2, 1) := by decide +kernel
theorem dX7_waitsForShared_34 : decode cX7_waitsForShared 34 = .ok (.iadd, 1) := by decide +kernel
theorem dX7_waitsForShared_35 : decode cX7_waitsForShared 35 = .ok (.iaload, 1) := by decide +kernel
theorem dX7_waitsForShared_36 : decode cX7_waitsForShared 36 = .ok (.iload_n 1, 1) := by decide +kernel
theorem dX7_waitsForShared_37 : decode cX7_waitsForShared 37 = .ok (.if_icmp .eq 7, 3) := by decide +kernel
theorem dX7_waitsForShared_40 : decode cX7_waitsForShared 40 = .ok (.iconst 1, 1) := by decide +kernel
theorem dX7_waitsForShared_41 : decode cX7_waitsForShared 41 = .ok (.goto 4, 3) := by decide +kernel
theorem dX7_waitsForShared_44 : decode cX7_waitsForShared 44 = .ok (.iconst 0, 1) := by decide +kernel
theorem dX7_waitsForShared_45 : decode cX7_waitsForShared 45 = .ok (.ireturn, 1) := by decide +kernel
theorem dX7_clean_0 : decode cX7_clean 0 = .ok (.iconst 0, 1) := by decide +kernel
theorem dX7_clean_1 : decode cX7_clean 1 = .ok (.istore_n 1, 1) := by decide +kernel
theorem dX7_clean_2 : decode cX7_clean 2 = .ok (.iload_n 1, 1) := by decide +kernel
theorem dX7_clean_3 : decode cX7_clean 3 = .ok (.aload_n 0, 1) := by decide +kernel
theorem dX7_clean_4 : decode cX7_clean 4 = .ok (.getfield 7, 3) := by decide +kernel
theorem dX7_clean_7 : decode cX7_clean 7 = .ok (.iconst 2, 1) := by decide +kernel
theorem dX7_clean_8 : decode cX7_clean 8 = .ok (.iaload, 1) := by decide +kernel
theorem dX7_clean_9 : decode cX7_clean 9 = .ok (.if_icmp .ge 36, 3) := by decide +kernel
theorem dX7_clean_12 : decode cX7_clean 12 = .ok (.aload_n 0, 1) := by decide +kernel
theorem dX7_clean_13 : decode cX7_clean 13 = .ok (.iload_n 1, 1) := by decide +kernel
theorem dX7_clean_14 : decode cX7_clean 14 = .ok (.iconst 4, 1) := by decide +kernel
theorem dX7_clean_15 : decode cX7_clean 15 = .ok (.aload_n 0, 1) := by decide +kernel
theorem dX7_clean_16 : decode cX7_clean 16 = .ok (.iload_n 1, 1) := by decide +kernel
theorem dX7_clean_17 : decode cX7_clean 17 = .ok (.iconst 4, 1) := by decide +kernel
theorem dX7_clean_18 : decode cX7_clean 18 = .ok (.invokevirtual 51, 3) := by decide +kernel
theorem dX7_clean_21 : decode cX7_clean 21 = .ok (.ifCond .le 14, 3) := by decide +kernel
theorem dX7_clean_24 : decode cX7_clean 24 = .ok (.aload_n 0, 1) := by decide +kernel
theorem dX7_clean_25 : decode cX7_clean 25 = .ok (.iload_n 1, 1) := by decide +kernel
theorem dX7_clean_26 : decode cX7_clean 26 = .ok (.iconst 4, 1) := by decide +kernel
theorem dX7_clean_27 : decode cX7_clean 27 = .ok (.invokevirtual 51, 3) := by decide +kernel
theorem dX7_clean_30 : decode cX7_clean 30 = .ok (.iconst 1, 1) := by decide +kernel
theorem dX7_clean_31 : decode cX7_clean 31 = .ok (.isub, 1) := by decide +kernel
theorem dX7_clean_32 : decode cX7_clean 32 = .ok (.goto 4, 3) := by decide +kernel
theorem dX7_clean_35 : decode cX7_clean 35 = .ok (.iconst 0, 1) := by decide +kernel
theorem dX7_clean_36 : decode cX7_clean 36 = .ok (.invokevirtual 47, 3) := by decide +kernel
theorem dX7_clean_39 : decode cX7_clean 39 = .ok (.iinc 1 1, 3) := by decide +kernel
theorem dX7_clean_42 : decode cX7_clean 42 = .ok (.goto (-40), 3) := by decide +kernel
theorem dX7_clean_45 : decode cX7_clean 45 = .ok (.return_, 1) := by decide +kernel
theorem dX7_reason_0 : decode cX7_reason 0 = .ok (.aload_n 0, 1) := by decide +kernel
theorem dX7_reason_1 : decode cX7_reason 1 = .ok (.iload_n 1, 1) := by decide +kernel
theorem dX7_reason_2 : decode cX7_reason 2 = .ok (.invokevirtual 180, 3) := by decide +kernel
theorem dX7_reason_5 : decode cX7_reason 5 = .ok (.ifCond .eq 5, 3) := by decide +kernel
theorem dX7_reason_8 : decode cX7_reason 8 = .ok (.iconst 1, 1) := by decide +kernel
theorem dX7_reason_9 : decode cX7_reason 9 = .ok (.ireturn, 1) := by decide +kernel
theorem dX7_reason_10 : decode cX7_reason 10 = .ok (.aload_n 0, 1) := by decide +kernel
theorem dX7_reason_11 : decode cX7_reason 11 = .ok (.iload_n 1, 1) := by decide +kernel
theorem dX7_reason_12 : decode cX7_reason 12 = .ok (.bipush 8, 2) := by decide +kernel
theorem dX7_reason_14 : decode cX7_reason 14 = .ok (.invokevirtual 40, 3) := by decide +kernel
theorem dX7_reason_17 : decode cX7_reason 17 = .ok (.iconst (-1), 1) := by decide +kernel
theorem dX7_reason_18 : decode cX7_reason 18 = .ok (.if_icmp .ne 22, 3) := by decide +kernel
theorem dX7_reason_21 : decode cX7_reason 21 = .ok (.aload_n 0, 1) := by decide +kernel
theorem dX7_reason_22 : decode cX7_reason 22 = .ok (.iload_n 1, 1) := by decide +kernel
theorem dX7_reason_23 : decode cX7_reason 23 = .ok (.aload_n 0, 1) := by decide +kernel
theorem dX7_reason_24 : decode cX7_reason 24 = .ok (.iload_n 1, 1) := by decide +kernel
theorem dX7_reason_25 : decode cX7_reason 25 = .ok (.invokevirtual 164, 3) := by decide +kernel
theorem dX7_reason_28 : decode cX7_reason 28 = .ok (.invokestatic 131, 3) := by decide +kernel
theorem dX7_reason_31 : decode cX7_reason 31 = .ok (.invokevirtual 183, 3) := by decide +kernel
theorem dX7_reason_34 : decode cX7_reason 34 = .ok (.iconst (-1), 1) := by decide +kernel
theorem dX7_reason_35 : decode cX7_reason 35 = .ok (.if_icmp .ne 5, 3) := by decide +kernel
theorem dX7_reason_38 : decode cX7_reason 38 = .ok (.iconst 2, 1) := by decide +kernel
theorem dX7_reason_39 : decode cX7_reason 39 = .ok (.ireturn, 1) := by decide +kernel
theorem dX7_reason_40 : decode cX7_reason 40 = .ok (.aload_n 0, 1) := by decide +kernel
theorem dX7_reason_41 : decode cX7_reason 41 = .ok (.iload_n 1, 1) := by decide +kernel
theorem dX7_reason_42 : decode cX7_reason 42 = .ok (.invokevirtual 186, 3) := by decide +kernel
theorem dX7_reason_45 : decode cX7_reason 45 = .ok (.ifCond .eq 7, 3) := by decide +kernel
theorem dX7_reason_48 : decode cX7_reason 48 = .ok (.iconst 3, 1) := by decide +kernel
theorem dX7_reason_49 : decode cX7_reason 49 = .ok (.goto 4, 3) := by decide +kernel
theorem dX7_reason_52 : decode cX7_reason 52 = .ok (.iconst 0, 1) := by decide +kernel
theorem dX7_reason_53 : decode cX7_reason 53 = .ok (.ireturn, 1) := by decide +kernel
theorem dX7_waits_0 : decode cX7_waits 0 = .ok (.aload_n 0, 1) := by decide +kernel
theorem dX7_waits_1 : decode cX7_waits 1 = .ok (.iload_n 1, 1) := by decide +kernel
theorem dX7_waits_2 : decode cX7_waits 2 = .ok (.invokevirtual 152, 3) := by decide +kernel
theorem dX7_waits_5 : decode cX7_waits 5 = .ok (.ifCond .ne 5, 3) := by decide +kernel
theorem dX7_waits_8 : decode cX7_waits 8 = .ok (.iconst (-1), 1) := by decide +kernel
theorem dX7_waits_9 : decode cX7_waits 9 = .ok (.ireturn, 1) := by decide +kernel
theorem dX7_waits_10 : decode cX7_waits 10 = .ok (.aload_n 0, 1) := by decide +kernel
theorem dX7_waits_11 : decode cX7_waits 11 = .ok (.iload_n 1, 1) := by decide +kernel
theorem dX7_waits_12 : decode cX7_waits 12 = .ok (.invokevirtual 72, 3) := by decide +kernel
theorem dX7_waits_15 : decode cX7_waits 15 = .ok (.ifCond .ne 6, 3) := by decide +kernel
theorem dX7_waits_18 : decode cX7_waits 18 = .ok (.bipush (-4), 2) := by decide +kernel
theorem dX7_waits_20 : decode cX7_waits 20 = .ok (.ireturn, 1) := by decide +kernel
theorem dX7_waits_21 : decode cX7_waits 21 = .ok (.aload_n 0, 1) := by decide +kernel
theorem dX7_waits_22 : decode cX7_waits 22 = .ok (.getfield 7, 3) := by decide +kernel
theorem dX7_waits_25 : decode cX7_waits 25 = .ok (.iconst 0, 1) := by decide +kernel
theorem dX7_waits_26 : decode cX7_waits 26 = .ok (.aload_n 0, 1) := by decide +kernel
theorem dX7_waits_27 : decode cX7_waits 27 = .ok (.getfield 13, 3) := by decide +kernel
theorem dX7_waits_30 : decode cX7_waits 30 = .ok (.iconst 0, 1) := by decide +kernel
theorem dX7_waits_31 : decode cX7_waits 31 = .ok (.invokestatic 32, 3) := by decide +kernel
theorem dX7_waits_34 : decode cX7_waits 34 = .ok (.aload_n 0, 1) := by decide +kernel
theorem dX7_waits_35 : decode cX7_waits 35 = .ok (.invokevirtual 189, 3) := by decide +kernel
theorem dX7_waits_38 : decode cX7_waits 38 = .ok (.aload_n 0, 1) := by decide +kernel
theorem dX7_waits_39 : decode cX7_waits 39 = .ok (.iload_n 1, 1) := by decide +kernel
theorem dX7_waits_40 : decode cX7_waits 40 = .ok (.invokevirtual 192, 3) := by decide +kernel
theorem dX7_waits_43 : decode cX7_waits 43 = .ok (.istore_n 2, 1) := by decide +kernel
theorem dX7_waits_44 : decode cX7_waits 44 = .ok (.aload_n 0, 1) := by decide +kernel
theorem dX7_waits_45 : decode cX7_waits 45 = .ok (.getfield 13, 3) := by decide +kernel
theorem dX7_waits_48 : decode cX7_waits 48 = .ok (.iconst 0, 1) := by decide +kernel
theorem dX7_waits_49 : decode cX7_waits 49 = .ok (.aload_n 0, 1) := by decide +kernel
theorem dX7_waits_50 : decode cX7_waits 50 = .ok (.getfield 7, 3) := by decide +kernel
theorem dX7_waits_53 : decode cX7_waits 53 = .ok (.iconst 0, 1) := by decide +kernel
theorem dX7_waits_54 : decode cX7_waits 54 = .ok (.invokestatic 32, 3) := by decide +kernel
theorem dX7_waits_57 : decode cX7_waits 57 = .ok (.iload_n 2, 1) := by decide +kernel
theorem dX7_waits_58 : decode cX7_waits 58 = .ok (.ireturn, 1) := by decide +kernel
theorem dX7_sort_0 : decode cX7_sort 0 = .ok (.iconst 0, 1) := by decide +kernel
theorem dX7_sort_1 : decode cX7_sort 1 = .ok (.istore_n 1, 1) := by decide +kernel
theorem dX7_sort_2 : decode cX7_sort 2 = .ok (.iconst 0, 1) := by decide +kernel
theorem dX7_sort_3 : decode cX7_sort 3 = .ok (.istore_n 2, 1) := by decide +kernel
theorem dX7_sort_4 : decode cX7_sort 4 = .ok (.iload_n 2, 1) := by decide +kernel
theorem dX7_sort_5 : decode cX7_sort 5 = .ok (.aload_n 0, 1) := by decide +kernel
theorem dX7_sort_6 : decode cX7_sort 6 = .ok (.getfield 7, 3) := by decide +kernel
theorem dX7_sort_9 : decode cX7_sort 9 = .ok (.iconst 3, 1) := by decide +kernel
theorem dX7_sort_10 : decode cX7_sort 10 = .ok (.iaload, 1) := by decide +kernel
theorem dX7_sort_11 : decode cX7_sort 11 = .ok (.if_icmp .ge 83, 3) := by decide +kernel
theorem dX7_sort_14 : decode cX7_sort 14 = .ok (.iload_n 1, 1) := by decide +kernel
theorem dX7_sort_15 : decode cX7_sort 15 = .ok (.istore_n 3, 1) := by decide +kernel
theorem dX7_sort_16 : decode cX7_sort 16 = .ok (.aload_n 0, 1) := by decide +kernel
theorem dX7_sort_17 : decode cX7_sort 17 = .ok (.iload_n 2, 1) := by decide +kernel
theorem dX7_sort_18 : decode cX7_sort 18 = .ok (.invokevirtual 72, 3) := by decide +kernel
theorem dX7_sort_21 : decode cX7_sort 21 = .ok (.ifCond .eq 49, 3) := by decide +kernel
theorem dX7_sort_24 : decode cX7_sort 24 = .ok (.iload_n 3, 1) := by decide +kernel
theorem dX7_sort_25 : decode cX7_sort 25 = .ok (.ifCond .le 45, 3) := by decide +kernel
theorem dX7_sort_28 : decode cX7_sort 28 = .ok (.aload_n 0, 1) := by decide +kernel
theorem dX7_sort_29 : decode cX7_sort 29 = .ok (.aload_n 0, 1) := by decide +kernel
theorem dX7_sort_30 : decode cX7_sort 30 = .ok (.getfield 25, 3) := by decide +kernel
theorem dX7_sort_33 : decode cX7_sort 33 = .ok (.iload_n 3, 1) := by decide +kernel
theorem dX7_sort_34 : decode cX7_sort 34 = .ok (.iconst 1, 1) := by decide +kernel
theorem dX7_sort_35 : decode cX7_sort 35 = .ok (.isub, 1) := by decide +kernel
theorem dX7_sort_36 : decode cX7_sort 36 = .ok (.iaload, 1) := by decide +kernel
theorem dX7_sort_37 : decode cX7_sort 37 = .ok (.iconst 3, 1) := by decide +kernel
theorem dX7_sort_38 : decode cX7_sort 38 = .ok (.invokevirtual 40, 3) := by decide +kernel
theorem dX7_sort_41 : decode cX7_sort 41 = .ok (.aload_n 0, 1) := by decide +kernel
theorem dX7_sort_42 : decode cX7_sort 42 = .ok (.iload_n 2, 1) := by decide +kernel
theorem dX7_sort_43 : decode cX7_sort 43 = .ok (.iconst 3, 1) := by decide +kernel
theorem dX7_sort_44 : decode cX7_sort 44 = .ok (.invokevirtual 40, 3) := by decide +kernel
theorem dX7_sort_47 : decode cX7_sort 47 = .ok (.if_icmp .ge 23, 3) := by decide +kernel
theorem dX7_sort_50 : decode cX7_sort 50 = .ok (.aload_n 0, 1) := by decide +kernel
theorem dX7_sort_51 : decode cX7_sort 51 = .ok (.getfield 25, 3) := by decide +kernel
theorem dX7_sort_54 : decode cX7_sort 54 = .ok (.iload_n 3, 1) := by decide +kernel
theorem dX7_sort_55 : decode cX7_sort 55 = .ok (.aload_n 0, 1) := by decide +kernel
theorem dX7_sort_56 : decode cX7_sort 56 = .ok (.getfield 25, 3) := by decide +kernel
theorem dX7_sort_59 : decode cX7_sort 59 = .ok (.iload_n 3, 1) := by decide +kernel
theorem dX7_sort_60 : decode cX7_sort 60 = .ok (.iconst 1, 1) := by decide +kernel
theorem dX7_sort_61 : decode cX7_sort 61 = .ok (.isub, 1) := by decide +kernel
theorem dX7_sort_62 : decode cX7_sort 62 = .ok (.iaload, 1) := by decide +kernel
theorem dX7_sort_63 : decode cX7_sort 63 = .ok (.iastore, 1) := by decide +kernel
theorem dX7_sort_64 : decode cX7_sort 64 = .ok (.iinc 3 (-1), 3) := by decide +kernel
theorem dX7_sort_67 : decode cX7_sort 67 = .ok (.goto (-51), 3) := by decide +kernel
theorem dX7_sort_70 : decode cX7_sort 70 = .ok (.aload_n 0, 1) := by decide +kernel
theorem dX7_sort_71 : decode cX7_sort 71 = .ok (.iload_n 2, 1) := by decide +kernel
theorem dX7_sort_72 : decode cX7_sort 72 = .ok (.invokevirtual 72, 3) := by decide +kernel
theorem dX7_sort_75 : decode cX7_sort 75 = .ok (.ifCond .eq 13, 3) := by decide +kernel
theorem dX7_sort_78 : decode cX7_sort 78 = .ok (.aload_n 0, 1) := by decide +kernel
theorem dX7_sort_79 : decode cX7_sort 79 = .ok (.getfield 25, 3) := by decide +kernel
theorem dX7_sort_82 : decode cX7_sort 82 = .ok (.iload_n 3, 1) := by decide +kernel
theorem dX7_sort_83 : decode cX7_sort 83 = .ok (.iload_n 2, 1) := by decide +kernel
theorem dX7_sort_84 : decode cX7_sort 84 = .ok (.iastore, 1) := by decide +kernel
theorem dX7_sort_85 : decode cX7_sort 85 = .ok (.iinc 1 1, 3) := by decide +kernel
theorem dX7_sort_88 : decode cX7_sort 88 = .ok (.iinc 2 1, 3) := by decide +kernel
theorem dX7_sort_91 : decode cX7_sort 91 = .ok (.goto (-87), 3) := by decide +kernel
theorem dX7_sort_94 : decode cX7_sort 94 = .ok (.iload_n 1, 1) := by decide +kernel
theorem dX7_sort_95 : decode cX7_sort 95 = .ok (.ireturn, 1) := by decide +kernel
theorem dX7_inOrder_0 : decode cX7_inOrder 0 = .ok (.iload_n 1, 1) := by decide +kernel
theorem dX7_inOrder_1 : decode cX7_inOrder 1 = .ok (.ifCond .ge 5, 3) := by decide +kernel
theorem dX7_inOrder_4 : decode cX7_inOrder 4 = .ok (.iconst (-1), 1) := by decide +kernel
theorem dX7_inOrder_5 : decode cX7_inOrder 5 = .ok (.ireturn, 1) := by decide +kernel
theorem dX7_inOrder_6 : decode cX7_inOrder 6 = .ok (.iload_n 1, 1) := by decide +kernel
theorem dX7_inOrder_7 : decode cX7_inOrder 7 = .ok (.aload_n 0, 1) := by decide +kernel
theorem dX7_inOrder_8 : decode cX7_inOrder 8 = .ok (.invokevirtual 195, 3) := by decide +kernel
theorem dX7_inOrder_11 : decode cX7_inOrder 11 = .ok (.if_icmp .ge 12, 3) := by decide +kernel
theorem dX7_inOrder_14 : decode cX7_inOrder 14 = .ok (.aload_n 0, 1) := by decide +kernel
theorem dX7_inOrder_15 : decode cX7_inOrder 15 = .ok (.getfield 25, 3) := by decide +kernel
theorem dX7_inOrder_18 : decode cX7_inOrder 18 = .ok (.iload_n 1, 1) := by decide +kernel
theorem dX7_inOrder_19 : decode cX7_inOrder 19 = .ok (.iaload, 1) := by decide +kernel
theorem dX7_inOrder_20 : decode cX7_inOrder 20 = .ok (.goto 5, 3) := by decide +kernel
theorem dX7_inOrder_23 : decode cX7_inOrder 23 = .ok (.bipush (-4), 2) := by decide +kernel
theorem dX7_inOrder_25 : decode cX7_inOrder 25 = .ok (.ireturn, 1) := by decide +kernel
theorem dX7_ends_0 : decode cX7_ends 0 = .ok (.aload_n 0, 1) := by decide +kernel
theorem dX7_ends_1 : decode cX7_ends 1 = .ok (.iload_n 1, 1) := by decide +kernel
theorem dX7_ends_2 : decode cX7_ends 2 = .ok (.invokevirtual 164, 3) := by decide +kernel
theorem dX7_ends_5 : decode cX7_ends 5 = .ok (.istore_n 2, 1) := by decide +kernel
theorem dX7_ends_6 : decode cX7_ends 6 = .ok (.aload_n 0, 1) := by decide +kernel
theorem dX7_ends_7 : decode cX7_ends 7 = .ok (.iload_n 1, 1) := by decide +kernel
theorem dX7_ends_8 : decode cX7_ends 8 = .ok (.bipush 9, 2) := by decide +kernel
theorem dX7_ends_10 : decode cX7_ends 10 = .ok (.invokevirtual 40, 3) := by decide +kernel
theorem dX7_ends_13 : decode cX7_ends 13 = .ok (.invokestatic 173, 3) := by decide +kernel
theorem dX7_ends_16 : decode cX7_ends 16 = .ok (.fstore_n 3, 1) := by decide +kernel
theorem dX7_ends_17 : decode cX7_ends 17 = .ok (.aload_n 0, 1) := by decide +kernel
theorem dX7_ends_18 : decode cX7_ends 18 = .ok (.iload_n 1, 1) := by decide +kernel
theorem dX7_ends_19 : decode cX7_ends 19 = .ok (.invokevirtual 57, 3) := by decide +kernel
theorem dX7_ends_22 : decode cX7_ends 22 = .ok (.aload_n 0, 1) := by decide +kernel
theorem dX7_ends_23 : decode cX7_ends 23 = .ok (.iload_n 1, 1) := by decide +kernel
theorem dX7_ends_24 : decode cX7_ends 24 = .ok (.bipush 9, 2) := by decide +kernel
theorem dX7_ends_26 : decode cX7_ends 26 = .ok (.fload_n 3, 1) := by decide +kernel
theorem dX7_ends_27 : decode cX7_ends 27 = .ok (.iload_n 2, 1) := by decide +kernel
theorem dX7_ends_28 : decode cX7_ends 28 = .ok (.invokestatic 140, 3) := by decide +kernel
theorem dX7_ends_31 : decode cX7_ends 31 = .ok (.i2f, 1) := by decide +kernel
theorem dX7_ends_32 : decode cX7_ends 32 = .ok (.fmul, 1) := by decide +kernel
theorem dX7_ends_33 : decode cX7_ends 33 = .ok (.ldc 198, 2) := by decide +kernel
theorem dX7_ends_35 : decode cX7_ends 35 = .ok (.fdiv, 1) := by decide +kernel
theorem dX7_ends_36 : decode cX7_ends 36 = .ok (.invokestatic 155, 3) := by decide +kernel
theorem dX7_ends_39 : decode cX7_ends 39 = .ok (.invokevirtual 54, 3) := by decide +kernel
theorem dX7_ends_42 : decode cX7_ends 42 = .ok (.aload_n 0, 1) := by decide +kernel
theorem dX7_ends_43 : decode cX7_ends 43 = .ok (.iload_n 1, 1) := by decide +kernel
theorem dX7_ends_44 : decode cX7_ends 44 = .ok (.bipush 6, 2) := by decide +kernel
theorem dX7_ends_46 : decode cX7_ends 46 = .ok (.aload_n 0, 1) := by decide +kernel
theorem dX7_ends_47 : decode cX7_ends 47 = .ok (.iload_n 1, 1) := by decide +kernel
theorem dX7_ends_48 : decode cX7_ends 48 = .ok (.bipush 6, 2) := by decide +kernel
theorem dX7_ends_50 : decode cX7_ends 50 = .ok (.invokevirtual 40, 3) := by decide +kernel
theorem dX7_ends_53 : decode cX7_ends 53 = .ok (.iconst 1, 1) := by decide +kernel
theorem dX7_ends_54 : decode cX7_ends 54 = .ok (.iadd, 1) := by decide +kernel
theorem dX7_ends_55 : decode cX7_ends 55 = .ok (.invokevirtual 54, 3) := by decide +kernel
theorem dX7_ends_58 : decode cX7_ends 58 = .ok (.aload_n 0, 1) := by decide +kernel
theorem dX7_ends_59 : decode cX7_ends 59 = .ok (.iload_n 1, 1) := by decide +kernel
theorem dX7_ends_60 : decode cX7_ends 60 = .ok (.bipush 7, 2) := by decide +kernel
theorem dX7_ends_62 : decode cX7_ends 62 = .ok (.iconst 0, 1) := by decide +kernel
theorem dX7_ends_63 : decode cX7_ends 63 = .ok (.invokevirtual 54, 3) := by decide +kernel
theorem dX7_ends_66 : decode cX7_ends 66 = .ok (.aload_n 0, 1) := by decide +kernel
theorem dX7_ends_67 : decode cX7_ends 67 = .ok (.iload_n 1, 1) := by decide +kernel
theorem dX7_ends_68 : decode cX7_ends 68 = .ok (.iconst 1, 1) := by decide +kernel
theorem dX7_ends_69 : decode cX7_ends 69 = .ok (.invokevirtual 64, 3) := by decide +kernel
theorem dX7_ends_72 : decode cX7_ends 72 = .ok (.aload_n 0, 1) := by decide +kernel
theorem dX7_ends_73 : decode cX7_ends 73 = .ok (.iload_n 1, 1) := by decide +kernel
theorem dX7_ends_74 : decode cX7_ends 74 = .ok (.bipush 6, 2) := by decide +kernel
theorem dX7_ends_76 : decode cX7_ends 76 = .ok (.invokevirtual 40, 3) := by decide +kernel
theorem dX7_ends_79 : decode cX7_ends 79 = .ok (.aload_n 0, 1) := by decide +kernel
theorem dX7_ends_80 : decode cX7_ends 80 = .ok (.aload_n 0, 1) := by decide +kernel
theorem dX7_ends_81 : decode cX7_ends 81 = .ok (.iload_n 1, 1) := by decide +kernel
theorem dX7_ends_82 : decode cX7_ends 82 = .ok (.iconst 0, 1) := by decide +kernel
theorem dX7_ends_83 : decode cX7_ends 83 = .ok (.invokevirtual 40, 3) := by decide +kernel
theorem dX7_ends_86 : decode cX7_ends 86 = .ok (.aload_n 0, 1) := by decide +kernel
theorem dX7_ends_87 : decode cX7_ends 87 = .ok (.iload_n 1, 1) := by decide +kernel
theorem dX7_ends_88 : decode cX7_ends 88 = .ok (.iconst 1, 1) := by decide +kernel
theorem dX7_ends_89 : decode cX7_ends 89 = .ok (.invokevirtual 40, 3) := by decide +kernel
theorem dX7_ends_92 : decode cX7_ends 92 = .ok (.invokevirtual 146, 3) := by decide +kernel
theorem dX7_ends_95 : decode cX7_ends 95 = .ok (.if_icmp .ne 7, 3) := by decide +kernel
theorem dX7_ends_98 : decode cX7_ends 98 = .ok (.iconst 1, 1) := by decide +kernel
theorem dX7_ends_99 : decode cX7_ends 99 = .ok (.goto 4, 3) := by decide +kernel
theorem dX7_ends_102 : decode cX7_ends 102 = .ok (.iconst 0, 1) := by decide +kernel
theorem dX7_ends_103 : decode cX7_ends 103 = .ok (.istore 4, 2) := by decide +kernel
theorem dX7_ends_105 : decode cX7_ends 105 = .ok (.iload 4, 2) := by decide +kernel
theorem dX7_ends_107 : decode cX7_ends 107 = .ok (.ifCond .eq 15, 3) := by decide +kernel
theorem dX7_ends_110 : decode cX7_ends 110 = .ok (.aload_n 0, 1) := by decide +kernel
theorem dX7_ends_111 : decode cX7_ends 111 = .ok (.iload_n 1, 1) := by decide +kernel
theorem dX7_ends_112 : decode cX7_ends 112 = .ok (.bipush 6, 2) := by decide +kernel
theorem dX7_ends_114 : decode cX7_ends 114 = .ok (.bipush 6, 2) := by decide +kernel
theorem dX7_ends_116 : decode cX7_ends 116 = .ok (.invokevirtual 170, 3) := by decide +kernel
theorem dX7_ends_119 : decode cX7_ends 119 = .ok (.goto 43, 3) := by decide +kernel
theorem dX7_ends_122 : decode cX7_ends 122 = .ok (.aload_n 0, 1) := by decide +kernel
theorem dX7_ends_123 : decode cX7_ends 123 = .ok (.iload_n 1, 1) := by decide +kernel
theorem dX7_ends_124 : decode cX7_ends 124 = .ok (.iconst 5, 1) := by decide +kernel
theorem dX7_ends_125 : decode cX7_ends 125 = .ok (.invokevirtual 40, 3) := by decide +kernel
theorem dX7_ends_128 : decode cX7_ends 128 = .ok (.iconst 3, 1) := by decide +kernel
theorem dX7_ends_129 : decode cX7_ends 129 = .ok (.if_icmp .ne 13, 3) := by decide +kernel
theorem dX7_ends_132 : decode cX7_ends 132 = .ok (.aload_n 0, 1) := by decide +kernel
theorem dX7_ends_133 : decode cX7_ends 133 = .ok (.iload_n 1, 1) := by decide +kernel
theorem dX7_ends_134 : decode cX7_ends 134 = .ok (.iconst 4, 1) := by decide +kernel
theorem dX7_ends_135 : decode cX7_ends 135 = .ok (.iconst 4, 1) := by decide +kernel
theorem dX7_ends_136 : decode cX7_ends 136 = .ok (.invokevirtual 170, 3) := by decide +kernel
theorem dX7_ends_139 : decode cX7_ends 139 = .ok (.goto 23, 3) := by decide +kernel
theorem dX7_ends_142 : decode cX7_ends 142 = .ok (.aload_n 0, 1) := by decide +kernel
theorem dX7_ends_143 : decode cX7_ends 143 = .ok (.iload_n 1, 1) := by decide +kernel
theorem dX7_ends_144 : decode cX7_ends 144 = .ok (.invokevirtual 164, 3) := by decide +kernel
theorem dX7_ends_147 : decode cX7_ends 147 = .ok (.invokestatic 131, 3) := by decide +kernel
theorem dX7_ends_150 : decode cX7_ends 150 = .ok (.iload_n 2, 1) := by decide +kernel
theorem dX7_ends_151 : decode cX7_ends 151 = .ok (.invokestatic 131, 3) := by decide +kernel
theorem dX7_ends_154 : decode cX7_ends 154 = .ok (.if_icmp .eq 8, 3) := by decide +kernel
theorem dX7_ends_157 : decode cX7_ends 157 = .ok (.aload_n 0, 1) := by decide +kernel
theorem dX7_ends_158 : decode cX7_ends 158 = .ok (.iload_n 1, 1) := by decide +kernel
theorem dX7_ends_159 : decode cX7_ends 159 = .ok (.invokevirtual 61, 3) := by decide +kernel
theorem dX7_ends_162 : decode cX7_ends 162 = .ok (.return_, 1) := by decide +kernel
theorem dX7_work_0 : decode cX7_work 0 = .ok (.aload_n 0, 1) := by decide +kernel
theorem dX7_work_1 : decode cX7_work 1 = .ok (.iload_n 1, 1) := by decide +kernel
theorem dX7_work_2 : decode cX7_work 2 = .ok (.invokevirtual 164, 3) := by decide +kernel
theorem dX7_work_5 : decode cX7_work 5 = .ok (.istore_n 2, 1) := by decide +kernel
theorem dX7_work_6 : decode cX7_work 6 = .ok (.aload_n 0, 1) := by decide +kernel
theorem dX7_work_7 : decode cX7_work 7 = .ok (.iload_n 1, 1) := by decide +kernel
theorem dX7_work_8 : decode cX7_work 8 = .ok (.invokevirtual 180, 3) := by decide +kernel
theorem dX7_work_11 : decode cX7_work 11 = .ok (.ifCond .eq 4, 3) := by decide +kernel
theorem dX7_work_14 : decode cX7_work 14 = .ok (.return_, 1) := by decide +kernel
theorem dX7_work_15 : decode cX7_work 15 = .ok (.aload_n 0, 1) := by decide +kernel
theorem dX7_work_16 : decode cX7_work 16 = .ok (.iload_n 1, 1) := by decide +kernel
theorem dX7_work_17 : decode cX7_work 17 = .ok (.bipush 8, 2) := by decide +kernel
theorem dX7_work_19 : decode cX7_work 19 = .ok (.invokevirtual 40, 3) := by decide +kernel
theorem dX7_work_22 : decode cX7_work 22 = .ok (.iconst (-1), 1) := by decide +kernel
theorem dX7_work_23 : decode cX7_work 23 = .ok (.if_icmp .ne 40, 3) := by decide +kernel
theorem dX7_work_26 : decode cX7_work 26 = .ok (.aload_n 0, 1) := by decide +kernel
theorem dX7_work_27 : decode cX7_work 27 = .ok (.iload_n 1, 1) := by decide +kernel
theorem dX7_work_28 : decode cX7_work 28 = .ok (.iload_n 2, 1) := by decide +kernel
theorem dX7_work_29 : decode cX7_work 29 = .ok (.invokestatic 131, 3) := by decide +kernel
theorem dX7_work_32 : decode cX7_work 32 = .ok (.invokevirtual 183, 3) := by decide +kernel
theorem dX7_work_35 : decode cX7_work 35 = .ok (.istore_n 3, 1) := by decide +kernel
theorem dX7_work_36 : decode cX7_work 36 = .ok (.iload_n 3, 1) := by decide +kernel
theorem dX7_work_37 : decode cX7_work 37 = .ok (.iconst (-1), 1) := by decide +kernel
theorem dX7_work_38 : decode cX7_work 38 = .ok (.if_icmp .ne 4, 3) := by decide +kernel
theorem dX7_work_41 : decode cX7_work 41 = .ok (.return_, 1) := by decide +kernel
theorem dX7_work_42 : decode cX7_work 42 = .ok (.aload_n 0, 1) := by decide +kernel
theorem dX7_work_43 : decode cX7_work 43 = .ok (.iload_n 1, 1) := by decide +kernel
theorem dX7_work_44 : decode cX7_work 44 = .ok (.bipush 8, 2) := by decide +kernel
theorem dX7_work_46 : decode cX7_work 46 = .ok (.iload_n 3, 1) := by decide +kernel
theorem dX7_work_47 : decode cX7_work 47 = .ok (.invokevirtual 54, 3) := by decide +kernel
theorem dX7_work_50 : decode cX7_work 50 = .ok (.aload_n 0, 1) := by decide +kernel
theorem dX7_work_51 : decode cX7_work 51 = .ok (.iload_n 3, 1) := by decide +kernel
theorem dX7_work_52 : decode cX7_work 52 = .ok (.iconst 2, 1) := by decide +kernel
theorem dX7_work_53 : decode cX7_work 53 = .ok (.iload_n 1, 1) := by decide +kernel
theorem dX7_work_54 : decode cX7_work 54 = .ok (.invokevirtual 47, 3) := by decide +kernel
theorem dX7_work_57 : decode cX7_work 57 = .ok (.aload_n 0, 1) := by decide +kernel
theorem dX7_work_58 : decode cX7_work 58 = .ok (.iload_n 1, 1) := by decide +kernel
theorem dX7_work_59 : decode cX7_work 59 = .ok (.iconst 0, 1) := by decide +kernel
theorem dX7_work_60 : decode cX7_work 60 = .ok (.invokevirtual 64, 3) := by decide +kernel
theorem dX7_work_63 : decode cX7_work 63 = .ok (.aload_n 0, 1) := by decide +kernel
theorem dX7_work_64 : decode cX7_work 64 = .ok (.iload_n 1, 1) := by decide +kernel
theorem dX7_work_65 : decode cX7_work 65 = .ok (.invokevirtual 186, 3) := by decide +kernel
theorem dX7_work_68 : decode cX7_work 68 = .ok (.ifCond .eq 4, 3) := by decide +kernel
theorem dX7_work_71 : decode cX7_work 71 = .ok (.return_, 1) := by decide +kernel
theorem dX7_work_72 : decode cX7_work 72 = .ok (.iload_n 2, 1) := by decide +kernel
theorem dX7_work_73 : decode cX7_work 73 = .ok (.invokestatic 137, 3) := by decide +kernel
theorem dX7_work_76 : decode cX7_work 76 = .ok (.iconst (-1), 1) := by decide +kernel
theorem dX7_work_77 : decode cX7_work 77 = .ok (.if_icmp .eq 16, 3) := by decide +kernel
theorem dX7_work_80 : decode cX7_work 80 = .ok (.aload_n 0, 1) := by decide +kernel
theorem dX7_work_81 : decode cX7_work 81 = .ok (.getfield 7, 3) := by decide +kernel
theorem dX7_work_84 : decode cX7_work 84 = .ok (.bipush 53, 2) := by decide +kernel
theorem dX7_work_86 : decode cX7_work 86 = .ok (.iload_n 2, 1) := by decide +kernel
theorem dX7_work_87 : decode cX7_work 87 = .ok (.invokestatic 137, 3) := by decide +kernel
theorem dX7_work_90 : decode cX7_work 90 = .ok (.iadd, 1) := by decide +kernel
theorem dX7_work_91 : decode cX7_work 91 = .ok (.iload_n 1, 1) := by decide +kernel
theorem dX7_work_92 : decode cX7_work 92 = .ok (.iastore, 1) := by decide +kernel
theorem dX7_work_93 : decode cX7_work 93 = .ok (.aload_n 0, 1) := by decide +kernel
theorem dX7_work_94 : decode cX7_work 94 = .ok (.iload_n 1, 1) := by decide +kernel
theorem dX7_work_95 : decode cX7_work 95 = .ok (.bipush 7, 2) := by decide +kernel
theorem dX7_work_97 : decode cX7_work 97 = .ok (.aload_n 0, 1) := by decide +kernel
theorem dX7_work_98 : decode cX7_work 98 = .ok (.iload_n 1, 1) := by decide +kernel
theorem dX7_work_99 : decode cX7_work 99 = .ok (.bipush 7, 2) := by decide +kernel
theorem dX7_work_101 : decode cX7_work 101 = .ok (.invokevirtual 40, 3) := by decide +kernel
theorem dX7_work_104 : decode cX7_work 104 = .ok (.iconst 1, 1) := by decide +kernel
theorem dX7_work_105 : decode cX7_work 105 = .ok (.iadd, 1) := by decide +kernel
theorem dX7_work_106 : decode cX7_work 106 = .ok (.invokevirtual 54, 3) := by decide +kernel
theorem dX7_work_109 : decode cX7_work 109 = .ok (.aload_n 0, 1) := by decide +kernel
theorem dX7_work_110 : decode cX7_work 110 = .ok (.aload_n 0, 1) := by decide +kernel
theorem dX7_work_111 : decode cX7_work 111 = .ok (.iload_n 1, 1) := by decide +kernel
theorem dX7_work_112 : decode cX7_work 112 = .ok (.bipush 8, 2) := by decide +kernel
theorem dX7_work_114 : decode cX7_work 114 = .ok (.invokevirtual 40, 3) := by decide +kernel
theorem dX7_work_117 : decode cX7_work 117 = .ok (.iconst 5, 1) := by decide +kernel
theorem dX7_work_118 : decode cX7_work 118 = .ok (.aload_n 0, 1) := by decide +kernel
theorem dX7_work_119 : decode cX7_work 119 = .ok (.aload_n 0, 1) := by decide +kernel
theorem dX7_work_120 : decode cX7_work 120 = .ok (.iload_n 1, 1) := by decide +kernel
theorem dX7_work_121 : decode cX7_work 121 = .ok (.bipush 8, 2) := by decide +kernel
theorem dX7_work_123 : decode cX7_work 123 = .ok (.invokevirtual 40, 3) := by decide +kernel
theorem dX7_work_126 : decode cX7_work 126 = .ok (.iconst 5, 1) := by decide +kernel
theorem dX7_work_127 : decode cX7_work 127 = .ok (.invokevirtual 51, 3) := by decide +kernel
theorem dX7_work_130 : decode cX7_work 130 = .ok (.iconst 1, 1) := by decide +kernel
theorem dX7_work_131 : decode cX7_work 131 = .ok (.iadd, 1) := by decide +kernel
theorem dX7_work_132 : decode cX7_work 132 = .ok (.invokevirtual 47, 3) := by decide +kernel
theorem dX7_work_135 : decode cX7_work 135 = .ok (.aload_n 0, 1) := by decide +kernel
theorem dX7_work_136 : decode cX7_work 136 = .ok (.iload_n 1, 1) := by decide +kernel
theorem dX7_work_137 : decode cX7_work 137 = .ok (.invokevirtual 167, 3) := by decide +kernel
theorem dX7_work_140 : decode cX7_work 140 = .ok (.ifCond .ne 8, 3) := by decide +kernel
theorem dX7_work_143 : decode cX7_work 143 = .ok (.aload_n 0, 1) := by decide +kernel
theorem dX7_work_144 : decode cX7_work 144 = .ok (.iload_n 1, 1) := by decide +kernel
theorem dX7_work_145 : decode cX7_work 145 = .ok (.invokevirtual 199, 3) := by decide +kernel
theorem dX7_work_148 : decode cX7_work 148 = .ok (.return_, 1) := by decide +kernel
theorem dX7_tick_0 : decode cX7_tick 0 = .ok (.aload_n 0, 1) := by decide +kernel
theorem dX7_tick_1 : decode cX7_tick 1 = .ok (.invokevirtual 189, 3) := by decide +kernel
theorem dX7_tick_4 : decode cX7_tick 4 = .ok (.aload_n 0, 1) := by decide +kernel
theorem dX7_tick_5 : decode cX7_tick 5 = .ok (.invokevirtual 195, 3) := by decide +kernel
theorem dX7_tick_8 : decode cX7_tick 8 = .ok (.istore_n 1, 1) := by decide +kernel
theorem dX7_tick_9 : decode cX7_tick 9 = .ok (.iconst 0, 1) := by decide +kernel
theorem dX7_tick_10 : decode cX7_tick 10 = .ok (.istore_n 2, 1) := by decide +kernel
theorem dX7_tick_11 : decode cX7_tick 11 = .ok (.iload_n 2, 1) := by decide +kernel
theorem dX7_tick_12 : decode cX7_tick 12 = .ok (.iload_n 1, 1) := by decide +kernel
theorem dX7_tick_13 : decode cX7_tick 13 = .ok (.if_icmp .ge 19, 3) := by decide +kernel
theorem dX7_tick_16 : decode cX7_tick 16 = .ok (.aload_n 0, 1) := by decide +kernel
theorem dX7_tick_17 : decode cX7_tick 17 = .ok (.aload_n 0, 1) := by decide +kernel
theorem dX7_tick_18 : decode cX7_tick 18 = .ok (.getfield 25, 3) := by decide +kernel
theorem dX7_tick_21 : decode cX7_tick 21 = .ok (.iload_n 2, 1) := by decide +kernel
theorem dX7_tick_22 : decode cX7_tick 22 = .ok (.iaload, 1) := by decide +kernel
theorem dX7_tick_23 : decode cX7_tick 23 = .ok (.invokevirtual 202, 3) := by decide +kernel
theorem dX7_tick_26 : decode cX7_tick 26 = .ok (.iinc 2 1, 3) := by decide +kernel
theorem dX7_tick_29 : decode cX7_tick 29 = .ok (.goto (-18), 3) := by decide +kernel
theorem dX7_tick_32 : decode cX7_tick 32 = .ok (.aload_n 0, 1) := by decide +kernel
theorem dX7_tick_33 : decode cX7_tick 33 = .ok (.getfield 7, 3) := by decide +kernel
theorem dX7_tick_36 : decode cX7_tick 36 = .ok (.iconst 1, 1) := by decide +kernel
theorem dX7_tick_37 : decode cX7_tick 37 = .ok (.dup2, 1) := by decide +kernel
theorem dX7_tick_38 : decode cX7_tick 38 = .ok (.iaload, 1) := by decide +kernel
theorem dX7_tick_39 : decode cX7_tick 39 = .ok (.iconst 1, 1) := by decide +kernel
theorem dX7_tick_40 : decode cX7_tick 40 = .ok (.iadd, 1) := by decide +kernel
theorem dX7_tick_41 : decode cX7_tick 41 = .ok (.iastore, 1) := by decide +kernel
theorem dX7_tick_42 : decode cX7_tick 42 = .ok (.return_, 1) := by decide +kernel
theorem dX7_run_0 : decode cX7_run 0 = .ok (.iload_n 1, 1) := by decide +kernel
theorem dX7_run_1 : decode cX7_run 1 = .ok (.iconst 1, 1) := by decide +kernel
theorem dX7_run_2 : decode cX7_run 2 = .ok (.sipush 500, 3) := by decide +kernel
theorem dX7_run_5 : decode cX7_run 5 = .ok (.invokestatic 36, 3) := by decide +kernel
theorem dX7_run_8 : decode cX7_run 8 = .ok (.ifCond .ne 5, 3) := by decide +kernel
theorem dX7_run_11 : decode cX7_run 11 = .ok (.iconst (-1), 1) := by decide +kernel
theorem dX7_run_12 : decode cX7_run 12 = .ok (.ireturn, 1) := by decide +kernel
theorem dX7_run_13 : decode cX7_run 13 = .ok (.aload_n 0, 1) := by decide +kernel
theorem dX7_run_14 : decode cX7_run 14 = .ok (.getfield 7, 3) := by decide +kernel
theorem dX7_run_17 : decode cX7_run 17 = .ok (.iconst 1, 1) := by decide +kernel
theorem dX7_run_18 : decode cX7_run 18 = .ok (.iaload, 1) := by decide +kernel
theorem dX7_run_19 : decode cX7_run 19 = .ok (.iload_n 1, 1) := by decide +kernel
theorem dX7_run_20 : decode cX7_run 20 = .ok (.iadd, 1) := by decide +kernel
theorem dX7_run_21 : decode cX7_run 21 = .ok (.ldc 205, 2) := by decide +kernel
theorem dX7_run_23 : decode cX7_run 23 = .ok (.if_icmp .le 6, 3) := by decide +kernel
theorem dX7_run_26 : decode cX7_run 26 = .ok (.bipush (-3), 2) := by decide +kernel
theorem dX7_run_28 : decode cX7_run 28 = .ok (.ireturn, 1) := by decide +kernel
theorem dX7_run_29 : decode cX7_run 29 = .ok (.aload_n 0, 1) := by decide +kernel
theorem dX7_run_30 : decode cX7_run 30 = .ok (.invokevirtual 44, 3) := by decide +kernel
theorem dX7_run_33 : decode cX7_run 33 = .ok (.aload_n 0, 1) := by decide +kernel
theorem dX7_run_34 : decode cX7_run 34 = .ok (.bipush 6, 2) := by decide +kernel
theorem dX7_run_36 : decode cX7_run 36 = .ok (.invokevirtual 161, 3) := by decide +kernel
theorem dX7_run_39 : decode cX7_run 39 = .ok (.istore_n 2, 1) := by decide +kernel
theorem dX7_run_40 : decode cX7_run 40 = .ok (.iconst 0, 1) := by decide +kernel
theorem dX7_run_41 : decode cX7_run 41 = .ok (.istore_n 3, 1) := by decide +kernel
theorem dX7_run_42 : decode cX7_run 42 = .ok (.iload_n 3, 1) := by decide +kernel
theorem dX7_run_43 : decode cX7_run 43 = .ok (.iload_n 1, 1) := by decide +kernel
theorem dX7_run_44 : decode cX7_run 44 = .ok (.if_icmp .ge 13, 3) := by decide +kernel
theorem dX7_run_47 : decode cX7_run 47 = .ok (.aload_n 0, 1) := by decide +kernel
theorem dX7_run_48 : decode cX7_run 48 = .ok (.invokevirtual 206, 3) := by decide +kernel
theorem dX7_run_51 : decode cX7_run 51 = .ok (.iinc 3 1, 3) := by decide +kernel
theorem dX7_run_54 : decode cX7_run 54 = .ok (.goto (-12), 3) := by decide +kernel
theorem dX7_run_57 : decode cX7_run 57 = .ok (.aload_n 0, 1) := by decide +kernel
theorem dX7_run_58 : decode cX7_run 58 = .ok (.bipush 6, 2) := by decide +kernel
theorem dX7_run_60 : decode cX7_run 60 = .ok (.invokevirtual 161, 3) := by decide +kernel
theorem dX7_run_63 : decode cX7_run 63 = .ok (.iload_n 2, 1) := by decide +kernel
theorem dX7_run_64 : decode cX7_run 64 = .ok (.isub, 1) := by decide +kernel
theorem dX7_run_65 : decode cX7_run 65 = .ok (.ireturn, 1) := by decide +kernel
theorem dX7_ticksTo_0 : decode cX7_ticksTo 0 = .ok (.aload_n 0, 1) := by decide +kernel
theorem dX7_ticksTo_1 : decode cX7_ticksTo 1 = .ok (.iload_n 1, 1) := by decide +kernel
theorem dX7_ticksTo_2 : decode cX7_ticksTo 2 = .ok (.invokevirtual 152, 3) := by decide +kernel
theorem dX7_ticksTo_5 : decode cX7_ticksTo 5 = .ok (.ifCond .ne 5, 3) := by decide +kernel
theorem dX7_ticksTo_8 : decode cX7_ticksTo 8 = .ok (.iconst (-1), 1) := by decide +kernel
theorem dX7_ticksTo_9 : decode cX7_ticksTo 9 = .ok (.ireturn, 1) := by decide +kernel
theorem dX7_ticksTo_10 : decode cX7_ticksTo 10 = .ok (.aload_n 0, 1) := by decide +kernel
theorem dX7_ticksTo_11 : decode cX7_ticksTo 11 = .ok (.getfield 7, 3) := by decide +kernel
theorem dX7_ticksTo_14 : decode cX7_ticksTo 14 = .ok (.iconst 0, 1) := by decide +kernel
theorem dX7_ticksTo_15 : decode cX7_ticksTo 15 = .ok (.aload_n 0, 1) := by decide +kernel
theorem dX7_ticksTo_16 : decode cX7_ticksTo 16 = .ok (.getfield 13, 3) := by decide +kernel
theorem dX7_ticksTo_19 : decode cX7_ticksTo 19 = .ok (.iconst 0, 1) := by decide +kernel
theorem dX7_ticksTo_20 : decode cX7_ticksTo 20 = .ok (.invokestatic 32, 3) := by decide +kernel
theorem dX7_ticksTo_23 : decode cX7_ticksTo 23 = .ok (.iconst 0, 1) := by decide +kernel
theorem dX7_ticksTo_24 : decode cX7_ticksTo 24 = .ok (.istore_n 2, 1) := by decide +kernel
theorem dX7_ticksTo_25 : decode cX7_ticksTo 25 = .ok (.iload_n 2, 1) := by decide +kernel
theorem dX7_ticksTo_26 : decode cX7_ticksTo 26 = .ok (.sipush 2000, 3) := by decide +kernel
theorem dX7_ticksTo_29 : decode cX7_ticksTo 29 = .ok (.if_icmp .ge 24, 3) := by decide +kernel
theorem dX7_ticksTo_32 : decode cX7_ticksTo 32 = .ok (.aload_n 0, 1) := by decide +kernel
theorem dX7_ticksTo_33 : decode cX7_ticksTo 33 = .ok (.iload_n 1, 1) := by decide +kernel
theorem dX7_ticksTo_34 : decode cX7_ticksTo 34 = .ok (.iconst 5, 1) := by decide +kernel
theorem dX7_ticksTo_35 : decode cX7_ticksTo 35 = .ok (.invokevirtual 40, 3) := by decide +kernel
theorem dX7_ticksTo_38 : decode cX7_ticksTo 38 = .ok (.bipush 6, 2) := by decide +kernel
theorem dX7_ticksTo_40 : decode cX7_ticksTo 40 = .ok (.if_icmp .eq 13, 3) := by decide +kernel
theorem dX7_ticksTo_43 : decode cX7_ticksTo 43 = .ok (.aload_n 0, 1) := by decide +kernel
theorem dX7_ticksTo_44 : decode cX7_ticksTo 44 = .ok (.invokevirtual 206, 3) := by decide +kernel
theorem dX7_ticksTo_47 : decode cX7_ticksTo 47 = .ok (.iinc 2 1, 3) := by decide +kernel
theorem dX7_ticksTo_50 : decode cX7_ticksTo 50 = .ok (.goto (-25), 3) := by decide +kernel
theorem dX7_ticksTo_53 : decode cX7_ticksTo 53 = .ok (.aload_n 0, 1) := by decide +kernel
theorem dX7_ticksTo_54 : decode cX7_ticksTo 54 = .ok (.iload_n 1, 1) := by decide +kernel
theorem dX7_ticksTo_55 : decode cX7_ticksTo 55 = .ok (.iconst 5, 1) := by decide +kernel
theorem dX7_ticksTo_56 : decode cX7_ticksTo 56 = .ok (.invokevirtual 40, 3) := by decide +kernel
theorem dX7_ticksTo_59 : decode cX7_ticksTo 59 = .ok (.bipush 6, 2) := by decide +kernel
theorem dX7_ticksTo_61 : decode cX7_ticksTo 61 = .ok (.if_icmp .ne 7, 3) := by decide +kernel
theorem dX7_ticksTo_64 : decode cX7_ticksTo 64 = .ok (.iconst 1, 1) := by decide +kernel
theorem dX7_ticksTo_65 : decode cX7_ticksTo 65 = .ok (.goto 4, 3) := by decide +kernel
theorem dX7_ticksTo_68 : decode cX7_ticksTo 68 = .ok (.iconst 0, 1) := by decide +kernel
theorem dX7_ticksTo_69 : decode cX7_ticksTo 69 = .ok (.istore_n 3, 1) := by decide +kernel
theorem dX7_ticksTo_70 : decode cX7_ticksTo 70 = .ok (.aload_n 0, 1) := by decide +kernel
theorem dX7_ticksTo_71 : decode cX7_ticksTo 71 = .ok (.getfield 13, 3) := by decide +kernel
theorem dX7_ticksTo_74 : decode cX7_ticksTo 74 = .ok (.iconst 0, 1) := by decide +kernel
theorem dX7_ticksTo_75 : decode cX7_ticksTo 75 = .ok (.aload_n 0, 1) := by decide +kernel
theorem dX7_ticksTo_76 : decode cX7_ticksTo 76 = .ok (.getfield 7, 3) := by decide +kernel
theorem dX7_ticksTo_79 : decode cX7_ticksTo 79 = .ok (.iconst 0, 1) := by decide +kernel
theorem dX7_ticksTo_80 : decode cX7_ticksTo 80 = .ok (.invokestatic 32, 3) := by decide +kernel
theorem dX7_ticksTo_83 : decode cX7_ticksTo 83 = .ok (.iload_n 3, 1) := by decide +kernel
theorem dX7_ticksTo_84 : decode cX7_ticksTo 84 = .ok (.ifCond .eq 7, 3) := by decide +kernel
theorem dX7_ticksTo_87 : decode cX7_ticksTo 87 = .ok (.iload_n 2, 1) := by decide +kernel
theorem dX7_ticksTo_88 : decode cX7_ticksTo 88 = .ok (.goto 5, 3) := by decide +kernel
theorem dX7_ticksTo_91 : decode cX7_ticksTo 91 = .ok (.bipush (-4), 2) := by decide +kernel
theorem dX7_ticksTo_93 : decode cX7_ticksTo 93 = .ok (.ireturn, 1) := by decide +kernel
theorem dX7_freeUnits_0 : decode cX7_freeUnits 0 = .ok (.iconst 0, 1) := by decide +kernel
theorem dX7_freeUnits_1 : decode cX7_freeUnits 1 = .ok (.istore_n 1, 1) := by decide +kernel
theorem dX7_freeUnits_2 : decode cX7_freeUnits 2 = .ok (.iconst 0, 1) := by decide +kernel
theorem dX7_freeUnits_3 : decode cX7_freeUnits 3 = .ok (.istore_n 2, 1) := by decide +kernel
theorem dX7_freeUnits_4 : decode cX7_freeUnits 4 = .ok (.iload_n 2, 1) := by decide +kernel
theorem dX7_freeUnits_5 : decode cX7_freeUnits 5 = .ok (.aload_n 0, 1) := by decide +kernel
theorem dX7_freeUnits_6 : decode cX7_freeUnits 6 = .ok (.getfield 7, 3) := by decide +kernel
theorem dX7_freeUnits_9 : decode cX7_freeUnits 9 = .ok (.iconst 2, 1) := by decide +kernel
theorem dX7_freeUnits_10 : decode cX7_freeUnits 10 = .ok (.iaload, 1) := by decide +kernel
theorem dX7_freeUnits_11 : decode cX7_freeUnits 11 = .ok (.if_icmp .ge 25, 3) := by decide +kernel
theorem dX7_freeUnits_14 : decode cX7_freeUnits 14 = .ok (.iload_n 1, 1) := by decide +kernel
theorem dX7_freeUnits_15 : decode cX7_freeUnits 15 = .ok (.aload_n 0, 1) := by decide +kernel
theorem dX7_freeUnits_16 : decode cX7_freeUnits 16 = .ok (.iload_n 2, 1) := by decide +kernel
theorem dX7_freeUnits_17 : decode cX7_freeUnits 17 = .ok (.invokevirtual 82, 3) := by decide +kernel
theorem dX7_freeUnits_20 : decode cX7_freeUnits 20 = .ok (.ifCond .eq 7, 3) := by decide +kernel
theorem dX7_freeUnits_23 : decode cX7_freeUnits 23 = .ok (.iconst 1, 1) := by decide +kernel
theorem dX7_freeUnits_24 : decode cX7_freeUnits 24 = .ok (.goto 4, 3) := by decide +kernel
theorem dX7_freeUnits_27 : decode cX7_freeUnits 27 = .ok (.iconst 0, 1) := by decide +kernel
theorem dX7_freeUnits_28 : decode cX7_freeUnits 28 = .ok (.iadd, 1) := by decide +kernel
theorem dX7_freeUnits_29 : decode cX7_freeUnits 29 = .ok (.istore_n 1, 1) := by decide +kernel
theorem dX7_freeUnits_30 : decode cX7_freeUnits 30 = .ok (.iinc 2 1, 3) := by decide +kernel
theorem dX7_freeUnits_33 : decode cX7_freeUnits 33 = .ok (.goto (-29), 3) := by decide +kernel
theorem dX7_freeUnits_36 : decode cX7_freeUnits 36 = .ok (.iload_n 1, 1) := by decide +kernel
theorem dX7_freeUnits_37 : decode cX7_freeUnits 37 = .ok (.ireturn, 1) := by decide +kernel
theorem dX7_worked_0 : decode cX7_worked 0 = .ok (.iconst 0, 1) := by decide +kernel
theorem dX7_worked_1 : decode cX7_worked 1 = .ok (.istore_n 1, 1) := by decide +kernel
theorem dX7_worked_2 : decode cX7_worked 2 = .ok (.iconst 0, 1) := by decide +kernel
theorem dX7_worked_3 : decode cX7_worked 3 = .ok (.istore_n 2, 1) := by decide +kernel
theorem dX7_worked_4 : decode cX7_worked 4 = .ok (.iload_n 2, 1) := by decide +kernel
theorem dX7_worked_5 : decode cX7_worked 5 = .ok (.aload_n 0, 1) := by decide +kernel
theorem dX7_worked_6 : decode cX7_worked 6 = .ok (.getfield 7, 3) := by decide +kernel
theorem dX7_worked_9 : decode cX7_worked 9 = .ok (.iconst 2, 1) := by decide +kernel
theorem dX7_worked_10 : decode cX7_worked 10 = .ok (.iaload, 1) := by decide +kernel
theorem dX7_worked_11 : decode cX7_worked 11 = .ok (.if_icmp .ge 18, 3) := by decide +kernel
theorem dX7_worked_14 : decode cX7_worked 14 = .ok (.iload_n 1, 1) := by decide +kernel
theorem dX7_worked_15 : decode cX7_worked 15 = .ok (.aload_n 0, 1) := by decide +kernel
theorem dX7_worked_16 : decode cX7_worked 16 = .ok (.iload_n 2, 1) := by decide +kernel
theorem dX7_worked_17 : decode cX7_worked 17 = .ok (.iconst 5, 1) := by decide +kernel
theorem dX7_worked_18 : decode cX7_worked 18 = .ok (.invokevirtual 51, 3) := by decide +kernel
theorem dX7_worked_21 : decode cX7_worked 21 = .ok (.iadd, 1) := by decide +kernel
theorem dX7_worked_22 : decode cX7_worked 22 = .ok (.istore_n 1, 1) := by decide +kernel
theorem dX7_worked_23 : decode cX7_worked 23 = .ok (.iinc 2 1, 3) := by decide +kernel
theorem dX7_worked_26 : decode cX7_worked 26 = .ok (.goto (-22), 3) := by decide +kernel
theorem dX7_worked_29 : decode cX7_worked 29 = .ok (.iload_n 1, 1) := by decide +kernel
theorem dX7_worked_30 : decode cX7_worked 30 = .ok (.ireturn, 1) := by decide +kernel
theorem dX7_freeShared_0 : decode cX7_freeShared 0 = .ok (.iconst 0, 1) := by decide +kernel
theorem dX7_freeShared_1 : decode cX7_freeShared 1 = .ok (.istore_n 1, 1) := by decide +kernel
theorem dX7_freeShared_2 : decode cX7_freeShared 2 = .ok (.iconst 0, 1) := by decide +kernel
theorem dX7_freeShared_3 : decode cX7_freeShared 3 = .ok (.istore_n 2, 1) := by decide +kernel
theorem dX7_freeShared_4 : decode cX7_freeShared 4 = .ok (.iload_n 2, 1) := by decide +kernel
theorem dX7_freeShared_5 : decode cX7_freeShared 5 = .ok (.iconst 3, 1) := by decide +kernel
theorem dX7_freeShared_6 : decode cX7_freeShared 6 = .ok (.if_icmp .ge 30, 3) := by decide +kernel
theorem dX7_freeShared_9 : decode cX7_freeShared 9 = .ok (.iload_n 1, 1) := by decide +kernel
theorem dX7_freeShared_10 : decode cX7_freeShared 10 = .ok (.aload_n 0, 1) := by decide +kernel
theorem dX7_freeShared_11 : decode cX7_freeShared 11 = .ok (.getfield 7, 3) := by decide +kernel
theorem dX7_freeShared_14 : decode cX7_freeShared 14 = .ok (.bipush 53, 2) := by decide +kernel
theorem dX7_freeShared_16 : decode cX7_freeShared 16 = .ok (.iload_n 2, 1) := by decide +kernel
theorem dX7_freeShared_17 : decode cX7_freeShared 17 = .ok (.iadd, 1) := by decide +kernel
theorem dX7_freeShared_18 : decode cX7_freeShared 18 = .ok (.iaload, 1) := by decide +kernel
theorem dX7_freeShared_19 : decode cX7_freeShared 19 = .ok (.iconst (-1), 1) := by decide +kernel
theorem dX7_freeShared_20 : decode cX7_freeShared 20 = .ok (.if_icmp .ne 7, 3) := by decide +kernel
theorem dX7_freeShared_23 : decode cX7_freeShared 23 = .ok (.iconst 1, 1) := by decide +kernel
theorem dX7_freeShared_24 : decode cX7_freeShared 24 = .ok (.goto 4, 3) := by decide +kernel
theorem dX7_freeShared_27 : decode cX7_freeShared 27 = .ok (.iconst 0, 1) := by decide +kernel
theorem dX7_freeShared_28 : decode cX7_freeShared 28 = .ok (.iadd, 1) := by decide +kernel
theorem dX7_freeShared_29 : decode cX7_freeShared 29 = .ok (.istore_n 1, 1) := by decide +kernel
theorem dX7_freeShared_30 : decode cX7_freeShared 30 = .ok (.iinc 2 1, 3) := by decide +kernel
theorem dX7_freeShared_33 : decode cX7_freeShared 33 = .ok (.goto (-29), 3) := by decide +kernel
theorem dX7_freeShared_36 : decode cX7_freeShared 36 = .ok (.iload_n 1, 1) := by decide +kernel
theorem dX7_freeShared_37 : decode cX7_freeShared 37 = .ok (.ireturn, 1) := by decide +kernel
theorem dX7_count_0 : decode cX7_count 0 = .ok (.iload_n 1, 1) := by decide +kernel
theorem dX7_count_1 : decode cX7_count 1 = .ok (.tableswitch 160 0 17 #[87, 94, 99, 104, 111, 111, 111, 111, 111, 111, 111, 119, 126, 133, 140, 145, 150, 155], 87) := by decide +kernel
theorem dX7_count_88 : decode cX7_count 88 = .ok (.aload_n 0, 1) := by decide +kernel
theorem dX7_count_89 : decode cX7_count 89 = .ok (.getfield 7, 3) := by decide +kernel
theorem dX7_count_92 : decode cX7_count 92 = .ok (.iconst 2, 1) := by decide +kernel
theorem dX7_count_93 : decode cX7_count 93 = .ok (.iaload, 1) := by decide +kernel
theorem dX7_count_94 : decode cX7_count 94 = .ok (.ireturn, 1) := by decide +kernel
theorem dX7_count_95 : decode cX7_count 95 = .ok (.aload_n 0, 1) := by decide +kernel
theorem dX7_count_96 : decode cX7_count 96 = .ok (.invokevirtual 78, 3) := by decide +kernel
theorem dX7_count_99 : decode cX7_count 99 = .ok (.ireturn, 1) := by decide +kernel
theorem dX7_count_100 : decode cX7_count 100 = .ok (.aload_n 0, 1) := by decide +kernel
theorem dX7_count_101 : decode cX7_count 101 = .ok (.invokevirtual 209, 3) := by decide +kernel
theorem dX7_count_104 : decode cX7_count 104 = .ok (.ireturn, 1) := by decide +kernel
theorem dX7_count_105 : decode cX7_count 105 = .ok (.aload_n 0, 1) := by decide +kernel
theorem dX7_count_106 : decode cX7_count 106 = .ok (.getfield 7, 3) := by decide +kernel
theorem dX7_count_109 : decode cX7_count 109 = .ok (.iconst 3, 1) := by decide +kernel
theorem dX7_count_110 : decode cX7_count 110 = .ok (.iaload, 1) := by decide +kernel
theorem dX7_count_111 : decode cX7_count 111 = .ok (.ireturn, 1) := by decide +kernel
theorem dX7_count_112 : decode cX7_count 112 = .ok (.aload_n 0, 1) := by decide +kernel
theorem dX7_count_113 : decode cX7_count 113 = .ok (.iload_n 1, 1) := by decide +kernel
theorem dX7_count_114 : decode cX7_count 114 = .ok (.iconst 4, 1) := by decide +kernel
theorem dX7_count_115 : decode cX7_count 115 = .ok (.isub, 1) := by decide +kernel
theorem dX7_count_116 : decode cX7_count 116 = .ok (.invokevirtual 161, 3) := by decide +kernel
theorem dX7_count_119 : decode cX7_count 119 = .ok (.ireturn, 1) := by decide +kernel
theorem dX7_count_120 : decode cX7_count 120 = .ok (.aload_n 0, 1) := by decide +kernel
theorem dX7_count_121 : decode cX7_count 121 = .ok (.getfield 7, 3) := by decide +kernel
theorem dX7_count_124 : decode cX7_count 124 = .ok (.iconst 1, 1) := by decide +kernel
theorem dX7_count_125 : decode cX7_count 125 = .ok (.iaload, 1) := by decide +kernel
theorem dX7_count_126 : decode cX7_count 126 = .ok (.ireturn, 1) := by decide +kernel
theorem dX7_count_127 : decode cX7_count 127 = .ok (.aload_n 0, 1) := by decide +kernel
theorem dX7_count_128 : decode cX7_count 128 = .ok (.getfield 7, 3) := by decide +kernel
theorem dX7_count_131 : decode cX7_count 131 = .ok (.iconst 0, 1) := by decide +kernel
theorem dX7_count_132 : decode cX7_count 132 = .ok (.iaload, 1) := by decide +kernel
theorem dX7_count_133 : decode cX7_count 133 = .ok (.ireturn, 1) := by decide +kernel
theorem dX7_count_134 : decode cX7_count 134 = .ok (.aload_n 0, 1) := by decide +kernel
theorem dX7_count_135 : decode cX7_count 135 = .ok (.getfield 7, 3) := by decide +kernel
theorem dX7_count_138 : decode cX7_count 138 = .ok (.iconst 4, 1) := by decide +kernel
theorem dX7_count_139 : decode cX7_count 139 = .ok (.iaload, 1) := by decide +kernel
theorem dX7_count_140 : decode cX7_count 140 = .ok (.ireturn, 1) := by decide +kernel
theorem dX7_count_141 : decode cX7_count 141 = .ok (.aload_n 0, 1) := by decide +kernel
theorem dX7_count_142 : decode cX7_count 142 = .ok (.getfield 28, 3) := by decide +kernel
theorem dX7_count_145 : decode cX7_count 145 = .ok (.ireturn, 1) := by decide +kernel
theorem dX7_count_146 : decode cX7_count 146 = .ok (.aload_n 0, 1) := by decide +kernel
theorem dX7_count_147 : decode cX7_count 147 = .ok (.getfield 95, 3) := by decide +kernel
theorem dX7_count_150 : decode cX7_count 150 = .ok (.ireturn, 1) := by decide +kernel
theorem dX7_count_151 : decode cX7_count 151 = .ok (.aload_n 0, 1) := by decide +kernel
theorem dX7_count_152 : decode cX7_count 152 = .ok (.invokevirtual 212, 3) := by decide +kernel
theorem dX7_count_155 : decode cX7_count 155 = .ok (.ireturn, 1) := by decide +kernel
theorem dX7_count_156 : decode cX7_count 156 = .ok (.aload_n 0, 1) := by decide +kernel
theorem dX7_count_157 : decode cX7_count 157 = .ok (.invokevirtual 215, 3) := by decide +kernel
theorem dX7_count_160 : decode cX7_count 160 = .ok (.ireturn, 1) := by decide +kernel
theorem dX7_count_161 : decode cX7_count 161 = .ok (.iconst (-1), 1) := by decide +kernel
theorem dX7_count_162 : decode cX7_count 162 = .ok (.ireturn, 1) := by decide +kernel
theorem dX7_event_0 : decode cX7_event 0 = .ok (.iload_n 1, 1) := by decide +kernel
theorem dX7_event_1 : decode cX7_event 1 = .ok (.ifCond .lt 12, 3) := by decide +kernel
theorem dX7_event_4 : decode cX7_event 4 = .ok (.iload_n 2, 1) := by decide +kernel
theorem dX7_event_5 : decode cX7_event 5 = .ok (.iconst 0, 1) := by decide +kernel
theorem dX7_event_6 : decode cX7_event 6 = .ok (.iconst 2, 1) := by decide +kernel
theorem dX7_event_7 : decode cX7_event 7 = .ok (.invokestatic 36, 3) := by decide +kernel
theorem dX7_event_10 : decode cX7_event 10 = .ok (.ifCond .ne 5, 3) := by decide +kernel
theorem dX7_event_13 : decode cX7_event 13 = .ok (.iconst (-1), 1) := by decide +kernel
theorem dX7_event_14 : decode cX7_event 14 = .ok (.ireturn, 1) := by decide +kernel
theorem dX7_event_15 : decode cX7_event 15 = .ok (.iload_n 1, 1) := by decide +kernel
theorem dX7_event_16 : decode cX7_event 16 = .ok (.aload_n 0, 1) := by decide +kernel
theorem dX7_event_17 : decode cX7_event 17 = .ok (.getfield 7, 3) := by decide +kernel
theorem dX7_event_20 : decode cX7_event 20 = .ok (.iconst 4, 1) := by decide +kernel
theorem dX7_event_21 : decode cX7_event 21 = .ok (.iaload, 1) := by decide +kernel
theorem dX7_event_22 : decode cX7_event 22 = .ok (.if_icmp .ge 20, 3) := by decide +kernel
theorem dX7_event_25 : decode cX7_event 25 = .ok (.aload_n 0, 1) := by decide +kernel
theorem dX7_event_26 : decode cX7_event 26 = .ok (.getfield 7, 3) := by decide +kernel
theorem dX7_event_29 : decode cX7_event 29 = .ok (.sipush 668, 3) := by decide +kernel
theorem dX7_event_32 : decode cX7_event 32 = .ok (.iconst 3, 1) := by decide +kernel
theorem dX7_event_33 : decode cX7_event 33 = .ok (.iload_n 1, 1) := by decide +kernel
theorem dX7_event_34 : decode cX7_event 34 = .ok (.imul, 1) := by decide +kernel
theorem dX7_event_35 : decode cX7_event 35 = .ok (.iadd, 1) := by decide +kernel
theorem dX7_event_36 : decode cX7_event 36 = .ok (.iload_n 2, 1) := by decide +kernel
theorem dX7_event_37 : decode cX7_event 37 = .ok (.iadd, 1) := by decide +kernel
theorem dX7_event_38 : decode cX7_event 38 = .ok (.iaload, 1) := by decide +kernel
theorem dX7_event_39 : decode cX7_event 39 = .ok (.goto 5, 3) := by decide +kernel
theorem dX7_event_42 : decode cX7_event 42 = .ok (.bipush (-4), 2) := by decide +kernel
theorem dX7_event_44 : decode cX7_event 44 = .ok (.ireturn, 1) := by decide +kernel
theorem dX7_undo_0 : decode cX7_undo 0 = .ok (.aload_n 0, 1) := by decide +kernel
theorem dX7_undo_1 : decode cX7_undo 1 = .ok (.getfield 28, 3) := by decide +kernel
theorem dX7_undo_4 : decode cX7_undo 4 = .ok (.ifCond .ne 6, 3) := by decide +kernel
theorem dX7_undo_7 : decode cX7_undo 7 = .ok (.bipush (-2), 2) := by decide +kernel
theorem dX7_undo_9 : decode cX7_undo 9 = .ok (.ireturn, 1) := by decide +kernel
theorem dX7_undo_10 : decode cX7_undo 10 = .ok (.aload_n 0, 1) := by decide +kernel
theorem dX7_undo_11 : decode cX7_undo 11 = .ok (.dup, 1) := by decide +kernel
theorem dX7_undo_12 : decode cX7_undo 12 = .ok (.getfield 28, 3) := by decide +kernel
theorem dX7_undo_15 : decode cX7_undo 15 = .ok (.iconst 1, 1) := by decide +kernel
theorem dX7_undo_16 : decode cX7_undo 16 = .ok (.isub, 1) := by decide +kernel
theorem dX7_undo_17 : decode cX7_undo 17 = .ok (.putfield 28, 3) := by decide +kernel
theorem dX7_undo_20 : decode cX7_undo 20 = .ok (.aload_n 0, 1) := by decide +kernel
theorem dX7_undo_21 : decode cX7_undo 21 = .ok (.getfield 16, 3) := by decide +kernel
theorem dX7_undo_24 : decode cX7_undo 24 = .ok (.sipush 788, 3) := by decide +kernel
theorem dX7_undo_27 : decode cX7_undo 27 = .ok (.aload_n 0, 1) := by decide +kernel
theorem dX7_undo_28 : decode cX7_undo 28 = .ok (.getfield 28, 3) := by decide +kernel
theorem dX7_undo_31 : decode cX7_undo 31 = .ok (.imul, 1) := by decide +kernel
theorem dX7_undo_32 : decode cX7_undo 32 = .ok (.aload_n 0, 1) := by decide +kernel
theorem dX7_undo_33 : decode cX7_undo 33 = .ok (.getfield 7, 3) := by decide +kernel
theorem dX7_undo_36 : decode cX7_undo 36 = .ok (.iconst 0, 1) := by decide +kernel
theorem dX7_undo_37 : decode cX7_undo 37 = .ok (.invokestatic 32, 3) := by decide +kernel
theorem dX7_undo_40 : decode cX7_undo 40 = .ok (.aload_n 0, 1) := by decide +kernel
theorem dX7_undo_41 : decode cX7_undo 41 = .ok (.getfield 28, 3) := by decide +kernel
theorem dX7_undo_44 : decode cX7_undo 44 = .ok (.ireturn, 1) := by decide +kernel
theorem dX7_type_0 : decode cX7_type 0 = .ok (.iload_n 1, 1) := by decide +kernel
theorem dX7_type_1 : decode cX7_type 1 = .ok (.bipush 32, 2) := by decide +kernel
theorem dX7_type_3 : decode cX7_type 3 = .ok (.bipush 126, 2) := by decide +kernel
theorem dX7_type_5 : decode cX7_type 5 = .ok (.invokestatic 36, 3) := by decide +kernel
theorem dX7_type_8 : decode cX7_type 8 = .ok (.ifCond .ne 5, 3) := by decide +kernel
theorem dX7_type_11 : decode cX7_type 11 = .ok (.iconst (-1), 1) := by decide +kernel
theorem dX7_type_12 : decode cX7_type 12 = .ok (.ireturn, 1) := by decide +kernel
theorem dX7_type_13 : decode cX7_type 13 = .ok (.aload_n 0, 1) := by decide +kernel
theorem dX7_type_14 : decode cX7_type 14 = .ok (.getfield 95, 3) := by decide +kernel
theorem dX7_type_17 : decode cX7_type 17 = .ok (.bipush 100, 2) := by decide +kernel
theorem dX7_type_19 : decode cX7_type 19 = .ok (.if_icmp .ne 6, 3) := by decide +kernel
theorem dX7_type_22 : decode cX7_type 22 = .ok (.bipush (-3), 2) := by decide +kernel
theorem dX7_type_24 : decode cX7_type 24 = .ok (.ireturn, 1) := by decide +kernel
theorem dX7_type_25 : decode cX7_type 25 = .ok (.aload_n 0, 1) := by decide +kernel
theorem dX7_type_26 : decode cX7_type 26 = .ok (.getfield 19, 3) := by decide +kernel
theorem dX7_type_29 : decode cX7_type 29 = .ok (.aload_n 0, 1) := by decide +kernel
theorem dX7_type_30 : decode cX7_type 30 = .ok (.getfield 95, 3) := by decide +kernel
theorem dX7_type_33 : decode cX7_type 33 = .ok (.iload_n 1, 1) := by decide +kernel
theorem dX7_type_34 : decode cX7_type 34 = .ok (.iastore, 1) := by decide +kernel
theorem dX7_type_35 : decode cX7_type 35 = .ok (.aload_n 0, 1) := by decide +kernel
theorem dX7_type_36 : decode cX7_type 36 = .ok (.dup, 1) := by decide +kernel
theorem dX7_type_37 : decode cX7_type 37 = .ok (.getfield 95, 3) := by decide +kernel
theorem dX7_type_40 : decode cX7_type 40 = .ok (.iconst 1, 1) := by decide +kernel
theorem dX7_type_41 : decode cX7_type 41 = .ok (.iadd, 1) := by decide +kernel
theorem dX7_type_42 : decode cX7_type 42 = .ok (.putfield 95, 3) := by decide +kernel
theorem dX7_type_45 : decode cX7_type 45 = .ok (.aload_n 0, 1) := by decide +kernel
theorem dX7_type_46 : decode cX7_type 46 = .ok (.getfield 95, 3) := by decide +kernel
theorem dX7_type_49 : decode cX7_type 49 = .ok (.ireturn, 1) := by decide +kernel
theorem dX7_clearText_0 : decode cX7_clearText 0 = .ok (.aload_n 0, 1) := by decide +kernel
theorem dX7_clearText_1 : decode cX7_clearText 1 = .ok (.getfield 95, 3) := by decide +kernel
theorem dX7_clearText_4 : decode cX7_clearText 4 = .ok (.istore_n 1, 1) := by decide +kernel
theorem dX7_clearText_5 : decode cX7_clearText 5 = .ok (.aload_n 0, 1) := by decide +kernel
theorem dX7_clearText_6 : decode cX7_clearText 6 = .ok (.iconst 0, 1) := by decide +kernel
theorem dX7_clearText_7 : decode cX7_clearText 7 = .ok (.putfield 95, 3) := by decide +kernel
theorem dX7_clearText_10 : decode cX7_clearText 10 = .ok (.iload_n 1, 1) := by decide +kernel
theorem dX7_clearText_11 : decode cX7_clearText 11 = .ok (.ireturn, 1) := by decide +kernel
theorem dX7_fault_0 : decode cX7_fault 0 = .ok (.iload_n 1, 1) := by decide +kernel
theorem dX7_fault_1 : decode cX7_fault 1 = .ok (.iconst 0, 1) := by decide +kernel
theorem dX7_fault_2 : decode cX7_fault 2 = .ok (.iconst 1, 1) := by decide +kernel
theorem dX7_fault_3 : decode cX7_fault 3 = .ok (.invokestatic 36, 3) := by decide +kernel
theorem dX7_fault_6 : decode cX7_fault 6 = .ok (.ifCond .ne 5, 3) := by decide +kernel
theorem dX7_fault_9 : decode cX7_fault 9 = .ok (.iconst (-1), 1) := by decide +kernel
theorem dX7_fault_10 : decode cX7_fault 10 = .ok (.ireturn, 1) := by decide +kernel
theorem dX7_fault_11 : decode cX7_fault 11 = .ok (.aload_n 0, 1) := by decide +kernel
theorem dX7_fault_12 : decode cX7_fault 12 = .ok (.invokevirtual 128, 3) := by decide +kernel
theorem dX7_fault_15 : decode cX7_fault 15 = .ok (.iconst (-1), 1) := by decide +kernel
theorem dX7_fault_16 : decode cX7_fault 16 = .ok (.if_icmp .eq 8, 3) := by decide +kernel
theorem dX7_fault_19 : decode cX7_fault 19 = .ok (.bipush (-4), 2) := by decide +kernel
theorem dX7_fault_21 : decode cX7_fault 21 = .ok (.goto 18, 3) := by decide +kernel
theorem dX7_fault_24 : decode cX7_fault 24 = .ok (.iload_n 1, 1) := by decide +kernel
theorem dX7_fault_25 : decode cX7_fault 25 = .ok (.ifCond .ne 10, 3) := by decide +kernel
theorem dX7_fault_28 : decode cX7_fault 28 = .ok (.aload_n 0, 1) := by decide +kernel
theorem dX7_fault_29 : decode cX7_fault 29 = .ok (.getfield 92, 3) := by decide +kernel
theorem dX7_fault_32 : decode cX7_fault 32 = .ok (.goto 7, 3) := by decide +kernel
theorem dX7_fault_35 : decode cX7_fault 35 = .ok (.aload_n 0, 1) := by decide +kernel
theorem dX7_fault_36 : decode cX7_fault 36 = .ok (.getfield 98, 3) := by decide +kernel
theorem dX7_fault_39 : decode cX7_fault 39 = .ok (.ireturn, 1) := by decide +kernel
theorem dJxf58ca_isNaN_12338_0 : decode cJxf58ca_isNaN_12338 0 = .ok (.fload_n 0, 1) := by decide +kernel
theorem dJxf58ca_isNaN_12338_1 : decode cJxf58ca_isNaN_12338 1 = .ok (.fload_n 0, 1) := by decide +kernel
theorem dJxf58ca_isNaN_12338_2 : decode cJxf58ca_isNaN_12338 2 = .ok (.fcmp .l, 1) := by decide +kernel
theorem dJxf58ca_isNaN_12338_3 : decode cJxf58ca_isNaN_12338 3 = .ok (.ifCond .eq 7, 3) := by decide +kernel
theorem dJxf58ca_isNaN_12338_6 : decode cJxf58ca_isNaN_12338 6 = .ok (.iconst 1, 1) := by decide +kernel
theorem dJxf58ca_isNaN_12338_7 : decode cJxf58ca_isNaN_12338 7 = .ok (.goto 4, 3) := by decide +kernel
theorem dJxf58ca_isNaN_12338_10 : decode cJxf58ca_isNaN_12338 10 = .ok (.iconst 0, 1) := by decide +kernel
theorem dJxf58ca_isNaN_12338_11 : decode cJxf58ca_isNaN_12338 11 = .ok (.ireturn, 1) := by decide +kernel
theorem dJxf58ca_floatToIntBits_5c35a_0 : decode cJxf58ca_floatToIntBits_5c35a 0 = .ok (.fload_n 0, 1) := by decide +kernel
theorem dJxf58ca_floatToIntBits_5c35a_1 : decode cJxf58ca_floatToIntBits_5c35a 1 = .ok (.invokestatic 59, 3) := by decide +kernel
theorem dJxf58ca_floatToIntBits_5c35a_4 : decode cJxf58ca_floatToIntBits_5c35a 4 = .ok (.ifCond .ne 8, 3) := by decide +kernel
theorem dJxf58ca_floatToIntBits_5c35a_7 : decode cJxf58ca_floatToIntBits_5c35a 7 = .ok (.fload_n 0, 1) := by decide +kernel
theorem dJxf58ca_floatToIntBits_5c35a_8 : decode cJxf58ca_floatToIntBits_5c35a 8 = .ok (.invokestatic 74, 3) := by decide +kernel
theorem dJxf58ca_floatToIntBits_5c35a_11 : decode cJxf58ca_floatToIntBits_5c35a 11 = .ok (.ireturn, 1) := by decide +kernel
theorem dJxf58ca_floatToIntBits_5c35a_12 : decode cJxf58ca_floatToIntBits_5c35a 12 = .ok (.ldc 77, 2) := by decide +kernel
theorem dJxf58ca_floatToIntBits_5c35a_14 : decode cJxf58ca_floatToIntBits_5c35a 14 = .ok (.ireturn, 1) := by decide +kernel
theorem dL_law_0 : decode cL_law 0 = .ok (.new 7, 3) := by decide +kernel
theorem dL_law_3 : decode cL_law 3 = .ok (.dup, 1) := by decide +kernel
theorem dL_law_4 : decode cL_law 4 = .ok (.invokespecial 9, 3) := by decide +kernel
theorem dL_law_7 : decode cL_law 7 = .ok (.astore_n 1, 1) := by decide +kernel
theorem dL_law_8 : decode cL_law 8 = .ok (.new 10, 3) := by decide +kernel
theorem dL_law_11 : decode cL_law 11 = .ok (.dup, 1) := by decide +kernel
theorem dL_law_12 : decode cL_law 12 = .ok (.invokespecial 12, 3) := by decide +kernel
theorem dL_law_15 : decode cL_law 15 = .ok (.astore_n 2, 1) := by decide +kernel
theorem dL_law_16 : decode cL_law 16 = .ok (.iconst 0, 1) := by decide +kernel
theorem dL_law_17 : decode cL_law 17 = .ok (.istore_n 3, 1) := by decide +kernel
theorem dL_law_18 : decode cL_law 18 = .ok (.iload_n 3, 1) := by decide +kernel
theorem dL_law_19 : decode cL_law 19 = .ok (.aload_n 0, 1) := by decide +kernel
theorem dL_law_20 : decode cL_law 20 = .ok (.arraylength, 1) := by decide +kernel
theorem dL_law_21 : decode cL_law 21 = .ok (.iconst 5, 1) := by decide +kernel
theorem dL_law_22 : decode cL_law 22 = .ok (.isub, 1) := by decide +kernel
theorem dL_law_23 : decode cL_law 23 = .ok (.if_icmp .gt 850, 3) := by decide +kernel
theorem dL_law_26 : decode cL_law 26 = .ok (.aload_n 0, 1) := by decide +kernel
theorem dL_law_27 : decode cL_law 27 = .ok (.iload_n 3, 1) := by decide +kernel
theorem dL_law_28 : decode cL_law 28 = .ok (.iaload, 1) := by decide +kernel
theorem dL_law_29 : decode cL_law 29 = .ok (.bipush 31, 2) := by decide +kernel
theorem dL_law_31 : decode cL_law 31 = .ok (.iand, 1) := by decide +kernel
theorem dL_law_32 : decode cL_law 32 = .ok (.tableswitch 835 0 26 #[124, 157, 180, 203, 236, 259, 282, 305, 328, 381, 434, 457, 480, 503, 526, 549, 582, 615, 638, 661, 684, 707, 730, 763, 776, 799, 812], 124) := by decide +kernel
theorem dL_law_156 : decode cL_law 156 = .ok (.aload_n 1, 1) := by decide +kernel
theorem dL_law_157 : decode cL_law 157 = .ok (.aload_n 0, 1) := by decide +kernel
theorem dL_law_158 : decode cL_law 158 = .ok (.iload_n 3, 1) := by decide +kernel
theorem dL_law_159 : decode cL_law 159 = .ok (.iconst 1, 1) := by decide +kernel
theorem dL_law_160 : decode cL_law 160 = .ok (.iadd, 1) := by decide +kernel
theorem dL_law_161 : decode cL_law 161 = .ok (.iaload, 1) := by decide +kernel
theorem dL_law_162 : decode cL_law 162 = .ok (.aload_n 0, 1) := by decide +kernel
theorem dL_law_163 : decode cL_law 163 = .ok (.iload_n 3, 1) := by decide +kernel
theorem dL_law_164 : decode cL_law 164 = .ok (.iconst 2, 1) := by decide +kernel
theorem dL_law_165 : decode cL_law 165 = .ok (.iadd, 1) := by decide +kernel
theorem dL_law_166 : decode cL_law 166 = .ok (.iaload, 1) := by decide +kernel
theorem dL_law_167 : decode cL_law 167 = .ok (.invokevirtual 13, 3) := by decide +kernel
theorem dL_law_170 : decode cL_law 170 = .ok (.aload_n 2, 1) := by decide +kernel
theorem dL_law_171 : decode cL_law 171 = .ok (.aload_n 0, 1) := by decide +kernel
theorem dL_law_172 : decode cL_law 172 = .ok (.iload_n 3, 1) := by decide +kernel
theorem dL_law_173 : decode cL_law 173 = .ok (.iconst 1, 1) := by decide +kernel
theorem dL_law_174 : decode cL_law 174 = .ok (.iadd, 1) := by decide +kernel
theorem dL_law_175 : decode cL_law 175 = .ok (.iaload, 1) := by decide +kernel
theorem dL_law_176 : decode cL_law 176 = .ok (.aload_n 0, 1) := by decide +kernel
theorem dL_law_177 : decode cL_law 177 = .ok (.iload_n 3, 1) := by decide +kernel
theorem dL_law_178 : decode cL_law 178 = .ok (.iconst 2, 1) := by decide +kernel
theorem dL_law_179 : decode cL_law 179 = .ok (.iadd, 1) := by decide +kernel
theorem dL_law_180 : decode cL_law 180 = .ok (.iaload, 1) := by decide +kernel
theorem dL_law_181 : decode cL_law 181 = .ok (.invokevirtual 17, 3) := by decide +kernel
theorem dL_law_184 : decode cL_law 184 = .ok (.if_icmp .eq 683, 3) := by decide +kernel
theorem dL_law_187 : decode cL_law 187 = .ok (.iconst 0, 1) := by decide +kernel
theorem dL_law_188 : decode cL_law 188 = .ok (.ireturn, 1) := by decide +kernel
theorem dL_law_189 : decode cL_law 189 = .ok (.aload_n 1, 1) := by decide +kernel
theorem dL_law_190 : decode cL_law 190 = .ok (.aload_n 0, 1) := by decide +kernel
theorem dL_law_191 : decode cL_law 191 = .ok (.iload_n 3, 1) := by decide +kernel
theorem dL_law_192 : decode cL_law 192 = .ok (.iconst 1, 1) := by decide +kernel
theorem dL_law_193 : decode cL_law 193 = .ok (.iadd, 1) := by decide +kernel
theorem dL_law_194 : decode cL_law 194 = .ok (.iaload, 1) := by decide +kernel
theorem dL_law_195 : decode cL_law 195 = .ok (.invokevirtual 18, 3) := by decide +kernel
theorem dL_law_198 : decode cL_law 198 = .ok (.aload_n 2, 1) := by decide +kernel
theorem dL_law_199 : decode cL_law 199 = .ok (.aload_n 0, 1) := by decide +kernel
theorem dL_law_200 : decode cL_law 200 = .ok (.iload_n 3, 1) := by decide +kernel
theorem dL_law_201 : decode cL_law 201 = .ok (.iconst 1, 1) := by decide +kernel
theorem dL_law_202 : decode cL_law 202 = .ok (.iadd, 1) := by decide +kernel
theorem dL_law_203 : decode cL_law 203 = .ok (.iaload, 1) := by decide +kernel
theorem dL_law_204 : decode cL_law 204 = .ok (.invokevirtual 22, 3) := by decide +kernel
theorem dL_law_207 : decode cL_law 207 = .ok (.if_icmp .eq 660, 3) := by decide +kernel
theorem dL_law_210 : decode cL_law 210 = .ok (.iconst 0, 1) := by decide +kernel
theorem dL_law_211 : decode cL_law 211 = .ok (.ireturn, 1) := by decide +kernel
theorem dL_law_212 : decode cL_law 212 = .ok (.aload_n 1, 1) := by decide +kernel
theorem dL_law_213 : decode cL_law 213 = .ok (.aload_n 0, 1) := by decide +kernel
theorem dL_law_214 : decode cL_law 214 = .ok (.iload_n 3, 1) := by decide +kernel
theorem dL_law_215 : decode cL_law 215 = .ok (.iconst 1, 1) := by decide +kernel
theorem dL_law_216 : decode cL_law 216 = .ok (.iadd, 1) := by decide +kernel
theorem dL_law_217 : decode cL_law 217 = .ok (.iaload, 1) := by decide +kernel
theorem dL_law_218 : decode cL_law 218 = .ok (.invokevirtual 23, 3) := by decide +kernel
theorem dL_law_221 : decode cL_law 221 = .ok (.aload_n 2, 1) := by decide +kernel
theorem dL_law_222 : decode cL_law 222 = .ok (.aload_n 0, 1) := by decide +kernel
theorem dL_law_223 : decode cL_law 223 = .ok (.iload_n 3, 1) := by decide +kernel
theorem dL_law_224 : decode cL_law 224 = .ok (.iconst 1, 1) := by decide +kernel
theorem dL_law_225 : decode cL_law 225 = .ok (.iadd, 1) := by decide +kernel
theorem dL_law_226 : decode cL_law 226 = .ok (.iaload, 1) := by decide +kernel
theorem dL_law_227 : decode cL_law 227 = .ok (.invokevirtual 26, 3) := by decide +kernel
theorem dL_law_230 : decode cL_law 230 = .ok (.if_icmp .eq 637, 3) := by decide +kernel
theorem dL_law_233 : decode cL_law 233 = .ok (.iconst 0, 1) := by decide +kernel
theorem dL_law_234 : decode cL_law 234 = .ok (.ireturn, 1) := by decide +kernel
theorem dL_law_235 : decode cL_law 235 = .ok (.aload_n 1, 1) := by decide +kernel
theorem dL_law_236 : decode cL_law 236 = .ok (.aload_n 0, 1) := by decide +kernel
theorem dL_law_237 : decode cL_law 237 = .ok (.iload_n 3, 1) := by decide +kernel
theorem dL_law_238 : decode cL_law 238 = .ok (.iconst 1, 1) := by decide +kernel
theorem dL_law_239 : decode cL_law 239 = .ok (.iadd, 1) := by decide +kernel
theorem dL_law_240 : decode cL_law 240 = .ok (.iaload, 1) := by decide +kernel
theorem dL_law_241 : decode cL_law 241 = .ok (.aload_n 0, 1) := by decide +kernel
theorem dL_law_242 : decode cL_law 242 = .ok (.iload_n 3, 1) := by decide +kernel
theorem dL_law_243 : decode cL_law 243 = .ok (.iconst 2, 1) := by decide +kernel
theorem dL_law_244 : decode cL_law 244 = .ok (.iadd, 1) := by decide +kernel
theorem dL_law_245 : decode cL_law 245 = .ok (.iaload, 1) := by decide +kernel
theorem dL_law_246 : decode cL_law 246 = .ok (.invokevirtual 27, 3) := by decide +kernel
theorem dL_law_249 : decode cL_law 249 = .ok (.aload_n 2, 1) := by decide +kernel
theorem dL_law_250 : decode cL_law 250 = .ok (.aload_n 0, 1) := by decide +kernel
theorem dL_law_251 : decode cL_law 251 = .ok (.iload_n 3, 1) := by decide +kernel
theorem dL_law_252 : decode cL_law 252 = .ok (.iconst 1, 1) := by decide +kernel
theorem dL_law_253 : decode cL_law 253 = .ok (.iadd, 1) := by decide +kernel
theorem dL_law_254 : decode cL_law 254 = .ok (.iaload, 1) := by decide +kernel
theorem dL_law_255 : decode cL_law 255 = .ok (.aload_n 0, 1) := by decide +kernel
theorem dL_law_256 : decode cL_law 256 = .ok (.iload_n 3, 1) := by decide +kernel
theorem dL_law_257 : decode cL_law 257 = .ok (.iconst 2, 1) := by decide +kernel
theorem dL_law_258 : decode cL_law 258 = .ok (.iadd, 1) := by decide +kernel
theorem dL_law_259 : decode cL_law 259 = .ok (.iaload, 1) := by decide +kernel
theorem dL_law_260 : decode cL_law 260 = .ok (.invokevirtual 30, 3) := by decide +kernel
theorem dL_law_263 : decode cL_law 263 = .ok (.if_icmp .eq 604, 3) := by decide +kernel
theorem dL_law_266 : decode cL_law 266 = .ok (.iconst 0, 1) := by decide +kernel
theorem dL_law_267 : decode cL_law 267 = .ok (.ireturn, 1) := by decide +kernel
theorem dL_law_268 : decode cL_law 268 = .ok (.aload_n 1, 1) := by decide +kernel
theorem dL_law_269 : decode cL_law 269 = .ok (.aload_n 0, 1) := by decide +kernel
theorem dL_law_270 : decode cL_law 270 = .ok (.iload_n 3, 1) := by decide +kernel
theorem dL_law_271 : decode cL_law 271 = .ok (.iconst 1, 1) := by decide +kernel
theorem dL_law_272 : decode cL_law 272 = .ok (.iadd, 1) := by decide +kernel
theorem dL_law_273 : decode cL_law 273 = .ok (.iaload, 1) := by decide +kernel
theorem dL_law_274 : decode cL_law 274 = .ok (.invokevirtual 31, 3) := by decide +kernel
theorem dL_law_277 : decode cL_law 277 = .ok (.aload_n 2, 1) := by decide +kernel
theorem dL_law_278 : decode cL_law 278 = .ok (.aload_n 0, 1) := by decide +kernel
theorem dL_law_279 : decode cL_law 279 = .ok (.iload_n 3, 1) := by decide +kernel
theorem dL_law_280 : decode cL_law 280 = .ok (.iconst 1, 1) := by decide +kernel
theorem dL_law_281 : decode cL_law 281 = .ok (.iadd, 1) := by decide +kernel
theorem dL_law_282 : decode cL_law 282 = .ok (.iaload, 1) := by decide +kernel
theorem dL_law_283 : decode cL_law 283 = .ok (.invokevirtual 34, 3) := by decide +kernel
theorem dL_law_286 : decode cL_law 286 = .ok (.if_icmp .eq 581, 3) := by decide +kernel
theorem dL_law_289 : decode cL_law 289 = .ok (.iconst 0, 1) := by decide +kernel
theorem dL_law_290 : decode cL_law 290 = .ok (.ireturn, 1) := by decide +kernel
theorem dL_law_291 : decode cL_law 291 = .ok (.aload_n 1, 1) := by decide +kernel
theorem dL_law_292 : decode cL_law 292 = .ok (.aload_n 0, 1) := by decide +kernel
theorem dL_law_293 : decode cL_law 293 = .ok (.iload_n 3, 1) := by decide +kernel
theorem dL_law_294 : decode cL_law 294 = .ok (.iconst 1, 1) := by decide +kernel
theorem dL_law_295 : decode cL_law 295 = .ok (.iadd, 1) := by decide +kernel
theorem dL_law_296 : decode cL_law 296 = .ok (.iaload, 1) := by decide +kernel
theorem dL_law_297 : decode cL_law 297 = .ok (.invokevirtual 35, 3) := by decide +kernel
theorem dL_law_300 : decode cL_law 300 = .ok (.aload_n 2, 1) := by decide +kernel
theorem dL_law_301 : decode cL_law 301 = .ok (.aload_n 0, 1) := by decide +kernel
theorem dL_law_302 : decode cL_law 302 = .ok (.iload_n 3, 1) := by decide +kernel
theorem dL_law_303 : decode cL_law 303 = .ok (.iconst 1, 1) := by decide +kernel
theorem dL_law_304 : decode cL_law 304 = .ok (.iadd, 1) := by decide +kernel
theorem dL_law_305 : decode cL_law 305 = .ok (.iaload, 1) := by decide +kernel
theorem dL_law_306 : decode cL_law 306 = .ok (.invokevirtual 38, 3) := by decide +kernel
theorem dL_law_309 : decode cL_law 309 = .ok (.if_icmp .eq 558, 3) := by decide +kernel
theorem dL_law_312 : decode cL_law 312 = .ok (.iconst 0, 1) := by decide +kernel
theorem dL_law_313 : decode cL_law 313 = .ok (.ireturn, 1) := by decide +kernel
theorem dL_law_314 : decode cL_law 314 = .ok (.aload_n 1, 1) := by decide +kernel
theorem dL_law_315 : decode cL_law 315 = .ok (.aload_n 0, 1) := by decide +kernel
theorem dL_law_316 : decode cL_law 316 = .ok (.iload_n 3, 1) := by decide +kernel
theorem dL_law_317 : decode cL_law 317 = .ok (.iconst 1, 1) := by decide +kernel
theorem dL_law_318 : decode cL_law 318 = .ok (.iadd, 1) := by decide +kernel
theorem dL_law_319 : decode cL_law 319 = .ok (.iaload, 1) := by decide +kernel
theorem dL_law_320 : decode cL_law 320 = .ok (.invokevirtual 39, 3) := by decide +kernel
theorem dL_law_323 : decode cL_law 323 = .ok (.aload_n 2, 1) := by decide +kernel
theorem dL_law_324 : decode cL_law 324 = .ok (.aload_n 0, 1) := by decide +kernel
theorem dL_law_325 : decode cL_law 325 = .ok (.iload_n 3, 1) := by decide +kernel
theorem dL_law_326 : decode cL_law 326 = .ok (.iconst 1, 1) := by decide +kernel
theorem dL_law_327 : decode cL_law 327 = .ok (.iadd, 1) := by decide +kernel
theorem dL_law_328 : decode cL_law 328 = .ok (.iaload, 1) := by decide +kernel
theorem dL_law_329 : decode cL_law 329 = .ok (.invokevirtual 42, 3) := by decide +kernel
theorem dL_law_332 : decode cL_law 332 = .ok (.if_icmp .eq 535, 3) := by decide +kernel
theorem dL_law_335 : decode cL_law 335 = .ok (.iconst 0, 1) := by decide +kernel
theorem dL_law_336 : decode cL_law 336 = .ok (.ireturn, 1) := by decide +kernel
theorem dL_law_337 : decode cL_law 337 = .ok (.aload_n 1, 1) := by decide +kernel
theorem dL_law_338 : decode cL_law 338 = .ok (.aload_n 0, 1) := by decide +kernel
theorem dL_law_339 : decode cL_law 339 = .ok (.iload_n 3, 1) := by decide +kernel
theorem dL_law_340 : decode cL_law 340 = .ok (.iconst 1, 1) := by decide +kernel
theorem dL_law_341 : decode cL_law 341 = .ok (.iadd, 1) := by decide +kernel
theorem dL_law_342 : decode cL_law 342 = .ok (.iaload, 1) := by decide +kernel
theorem dL_law_343 : decode cL_law 343 = .ok (.invokevirtual 43, 3) := by decide +kernel
theorem dL_law_346 : decode cL_law 346 = .ok (.aload_n 2, 1) := by decide +kernel
theorem dL_law_347 : decode cL_law 347 = .ok (.aload_n 0, 1) := by decide +kernel
theorem dL_law_348 : decode cL_law 348 = .ok (.iload_n 3, 1) := by decide +kernel
theorem dL_law_349 : decode cL_law 349 = .ok (.iconst 1, 1) := by decide +kernel
theorem dL_law_350 : decode cL_law 350 = .ok (.iadd, 1) := by decide +kernel
theorem dL_law_351 : decode cL_law 351 = .ok (.iaload, 1) := by decide +kernel
theorem dL_law_352 : decode cL_law 352 = .ok (.invokevirtual 46, 3) := by decide +kernel
theorem dL_law_355 : decode cL_law 355 = .ok (.if_icmp .eq 512, 3) := by decide +kernel
theorem dL_law_358 : decode cL_law 358 = .ok (.iconst 0, 1) := by decide +kernel
theorem dL_law_359 : decode cL_law 359 = .ok (.ireturn, 1) := by decide +kernel
theorem dL_law_360 : decode cL_law 360 = .ok (.aload_n 1, 1) := by decide +kernel
theorem dL_law_361 : decode cL_law 361 = .ok (.aload_n 0, 1) := by decide +kernel
theorem dL_law_362 : decode cL_law 362 = .ok (.iload_n 3, 1) := by decide +kernel
theorem dL_law_363 : decode cL_law 363 = .ok (.iconst 1, 1) := by decide +kernel
theorem dL_law_364 : decode cL_law 364 = .ok (.iadd, 1) := by decide +kernel
theorem dL_law_365 : decode cL_law 365 = .ok (.iaload, 1) := by decide +kernel
theorem dL_law_366 : decode cL_law 366 = .ok (.aload_n 0, 1) := by decide +kernel
theorem dL_law_367 : decode cL_law 367 = .ok (.iload_n 3, 1) := by decide +kernel
theorem dL_law_368 : decode cL_law 368 = .ok (.iconst 2, 1) := by decide +kernel
theorem dL_law_369 : decode cL_law 369 = .ok (.iadd, 1) := by decide +kernel
theorem dL_law_370 : decode cL_law 370 = .ok (.iaload, 1) := by decide +kernel
theorem dL_law_371 : decode cL_law 371 = .ok (.aload_n 0, 1) := by decide +kernel
theorem dL_law_372 : decode cL_law 372 = .ok (.iload_n 3, 1) := by decide +kernel
theorem dL_law_373 : decode cL_law 373 = .ok (.iconst 3, 1) := by decide +kernel
theorem dL_law_374 : decode cL_law 374 = .ok (.iadd, 1) := by decide +kernel
theorem dL_law_375 : decode cL_law 375 = .ok (.iaload, 1) := by decide +kernel
theorem dL_law_376 : decode cL_law 376 = .ok (.aload_n 0, 1) := by decide +kernel
theorem dL_law_377 : decode cL_law 377 = .ok (.iload_n 3, 1) := by decide +kernel
theorem dL_law_378 : decode cL_law 378 = .ok (.iconst 4, 1) := by decide +kernel
theorem dL_law_379 : decode cL_law 379 = .ok (.iadd, 1) := by decide +kernel
theorem dL_law_380 : decode cL_law 380 = .ok (.iaload, 1) := by decide +kernel
theorem dL_law_381 : decode cL_law 381 = .ok (.invokevirtual 47, 3) := by decide +kernel
theorem dL_law_384 : decode cL_law 384 = .ok (.aload_n 2, 1) := by decide +kernel
theorem dL_law_385 : decode cL_law 385 = .ok (.aload_n 0, 1) := by decide +kernel
theorem dL_law_386 : decode cL_law 386 = .ok (.iload_n 3, 1) := by decide +kernel
theorem dL_law_387 : decode cL_law 387 = .ok (.iconst 1, 1) := by decide +kernel
theorem dL_law_388 : decode cL_law 388 = .ok (.iadd, 1) := by decide +kernel
theorem dL_law_389 : decode cL_law 389 = .ok (.iaload, 1) := by decide +kernel
theorem dL_law_390 : decode cL_law 390 = .ok (.aload_n 0, 1) := by decide +kernel
theorem dL_law_391 : decode cL_law 391 = .ok (.iload_n 3, 1) := by decide +kernel
theorem dL_law_392 : decode cL_law 392 = .ok (.iconst 2, 1) := by decide +kernel
theorem dL_law_393 : decode cL_law 393 = .ok (.iadd, 1) := by decide +kernel
theorem dL_law_394 : decode cL_law 394 = .ok (.iaload, 1) := by decide +kernel
theorem dL_law_395 : decode cL_law 395 = .ok (.aload_n 0, 1) := by decide +kernel
theorem dL_law_396 : decode cL_law 396 = .ok (.iload_n 3, 1) := by decide +kernel
theorem dL_law_397 : decode cL_law 397 = .ok (.iconst 3, 1) := by decide +kernel
theorem dL_law_398 : decode cL_law 398 = .ok (.iadd, 1) := by decide +kernel
theorem dL_law_399 : decode cL_law 399 = .ok (.iaload, 1) := by decide +kernel
theorem dL_law_400 : decode cL_law 400 = .ok (.aload_n 0, 1) := by decide +kernel
theorem dL_law_401 : decode cL_law 401 = .ok (.iload_n 3, 1) := by decide +kernel
theorem dL_law_402 : decode cL_law 402 = .ok (.iconst 4, 1) := by decide +kernel
theorem dL_law_403 : decode cL_law 403 = .ok (.iadd, 1) := by decide +kernel
theorem dL_law_404 : decode cL_law 404 = .ok (.iaload, 1) := by decide +kernel
theorem dL_law_405 : decode cL_law 405 = .ok (.invokevirtual 51, 3) := by decide +kernel
theorem dL_law_408 : decode cL_law 408 = .ok (.if_icmp .eq 459, 3) := by decide +kernel
theorem dL_law_411 : decode cL_law 411 = .ok (.iconst 0, 1) := by decide +kernel
theorem dL_law_412 : decode cL_law 412 = .ok (.ireturn, 1) := by decide +kernel
theorem dL_law_413 : decode cL_law 413 = .ok (.aload_n 1, 1) := by decide +kernel
theorem dL_law_414 : decode cL_law 414 = .ok (.aload_n 0, 1) := by decide +kernel
theorem dL_law_415 : decode cL_law 415 = .ok (.iload_n 3, 1) := by decide +kernel
theorem dL_law_416 : decode cL_law 416 = .ok (.iconst 1, 1) := by decide +kernel
theorem dL_law_417 : decode cL_law 417 = .ok (.iadd, 1) := by decide +kernel
theorem dL_law_418 : decode cL_law 418 = .ok (.iaload, 1) := by decide +kernel
theorem dL_law_419 : decode cL_law 419 = .ok (.aload_n 0, 1) := by decide +kernel
theorem dL_law_420 : decode cL_law 420 = .ok (.iload_n 3, 1) := by decide +kernel
theorem dL_law_421 : decode cL_law 421 = .ok (.iconst 2, 1) := by decide +kernel
theorem dL_law_422 : decode cL_law 422 = .ok (.iadd, 1) := by decide +kernel
theorem dL_law_423 : decode cL_law 423 = .ok (.iaload, 1) := by decide +kernel
theorem dL_law_424 : decode cL_law 424 = .ok (.aload_n 0, 1) := by decide +kernel
theorem dL_law_425 : decode cL_law 425 = .ok (.iload_n 3, 1) := by decide +kernel
theorem dL_law_426 : decode cL_law 426 = .ok (.iconst 3, 1) := by decide +kernel
theorem dL_law_427 : decode cL_law 427 = .ok (.iadd, 1) := by decide +kernel
theorem dL_law_428 : decode cL_law 428 = .ok (.iaload, 1) := by decide +kernel
theorem dL_law_429 : decode cL_law 429 = .ok (.aload_n 0, 1) := by decide +kernel
theorem dL_law_430 : decode cL_law 430 = .ok (.iload_n 3, 1) := by decide +kernel
theorem dL_law_431 : decode cL_law 431 = .ok (.iconst 4, 1) := by decide +kernel
theorem dL_law_432 : decode cL_law 432 = .ok (.iadd, 1) := by decide +kernel
theorem dL_law_433 : decode cL_law 433 = .ok (.iaload, 1) := by decide +kernel
theorem dL_law_434 : decode cL_law 434 = .ok (.invokevirtual 52, 3) := by decide +kernel
theorem dL_law_437 : decode cL_law 437 = .ok (.aload_n 2, 1) := by decide +kernel
theorem dL_law_438 : decode cL_law 438 = .ok (.aload_n 0, 1) := by decide +kernel
theorem dL_law_439 : decode cL_law 439 = .ok (.iload_n 3, 1) := by decide +kernel
theorem dL_law_440 : decode cL_law 440 = .ok (.iconst 1, 1) := by decide +kernel
theorem dL_law_441 : decode cL_law 441 = .ok (.iadd, 1) := by decide +kernel
theorem dL_law_442 : decode cL_law 442 = .ok (.iaload, 1) := by decide +kernel
theorem dL_law_443 : decode cL_law 443 = .ok (.aload_n 0, 1) := by decide +kernel
theorem dL_law_444 : decode cL_law 444 = .ok (.iload_n 3, 1) := by decide +kernel
theorem dL_law_445 : decode cL_law 445 = .ok (.iconst 2, 1) := by decide +kernel
theorem dL_law_446 : decode cL_law 446 = .ok (.iadd, 1) := by decide +kernel
theorem dL_law_447 : decode cL_law 447 = .ok (.iaload, 1) := by decide +kernel
theorem dL_law_448 : decode cL_law 448 = .ok (.aload_n 0, 1) := by decide +kernel
theorem dL_law_449 : decode cL_law 449 = .ok (.iload_n 3, 1) := by decide +kernel
theorem dL_law_450 : decode cL_law 450 = .ok (.iconst 3, 1) := by decide +kernel
theorem dL_law_451 : decode cL_law 451 = .ok (.iadd, 1) := by decide +kernel
theorem dL_law_452 : decode cL_law 452 = .ok (.iaload, 1) := by decide +kernel
theorem dL_law_453 : decode cL_law 453 = .ok (.aload_n 0, 1) := by decide +kernel
theorem dL_law_454 : decode cL_law 454 = .ok (.iload_n 3, 1) := by decide +kernel
theorem dL_law_455 : decode cL_law 455 = .ok (.iconst 4, 1) := by decide +kernel
theorem dL_law_456 : decode cL_law 456 = .ok (.iadd, 1) := by decide +kernel
theorem dL_law_457 : decode cL_law 457 = .ok (.iaload, 1) := by decide +kernel
theorem dL_law_458 : decode cL_law 458 = .ok (.invokevirtual 55, 3) := by decide +kernel
theorem dL_law_461 : decode cL_law 461 = .ok (.if_icmp .eq 406, 3) := by decide +kernel
theorem dL_law_464 : decode cL_law 464 = .ok (.iconst 0, 1) := by decide +kernel
theorem dL_law_465 : decode cL_law 465 = .ok (.ireturn, 1) := by decide +kernel
theorem dL_law_466 : decode cL_law 466 = .ok (.aload_n 1, 1) := by decide +kernel
theorem dL_law_467 : decode cL_law 467 = .ok (.aload_n 0, 1) := by decide +kernel
theorem dL_law_468 : decode cL_law 468 = .ok (.iload_n 3, 1) := by decide +kernel
theorem dL_law_469 : decode cL_law 469 = .ok (.iconst 1, 1) := by decide +kernel
theorem dL_law_470 : decode cL_law 470 = .ok (.iadd, 1) := by decide +kernel
theorem dL_law_471 : decode cL_law 471 = .ok (.iaload, 1) := by decide +kernel
theorem dL_law_472 : decode cL_law 472 = .ok (.invokevirtual 56, 3) := by decide +kernel
theorem dL_law_475 : decode cL_law 475 = .ok (.aload_n 2, 1) := by decide +kernel
theorem dL_law_476 : decode cL_law 476 = .ok (.aload_n 0, 1) := by decide +kernel
theorem dL_law_477 : decode cL_law 477 = .ok (.iload_n 3, 1) := by decide +kernel
theorem dL_law_478 : decode cL_law 478 = .ok (.iconst 1, 1) := by decide +kernel
theorem dL_law_479 : decode cL_law 479 = .ok (.iadd, 1) := by decide +kernel
theorem dL_law_480 : decode cL_law 480 = .ok (.iaload, 1) := by decide +kernel
theorem dL_law_481 : decode cL_law 481 = .ok (.invokevirtual 59, 3) := by decide +kernel
theorem dL_law_484 : decode cL_law 484 = .ok (.if_icmp .eq 383, 3) := by decide +kernel
theorem dL_law_487 : decode cL_law 487 = .ok (.iconst 0, 1) := by decide +kernel
theorem dL_law_488 : decode cL_law 488 = .ok (.ireturn, 1) := by decide +kernel
theorem dL_law_489 : decode cL_law 489 = .ok (.aload_n 1, 1) := by decide +kernel
theorem dL_law_490 : decode cL_law 490 = .ok (.aload_n 0, 1) := by decide +kernel
theorem dL_law_491 : decode cL_law 491 = .ok (.iload_n 3, 1) := by decide +kernel
theorem dL_law_492 : decode cL_law 492 = .ok (.iconst 1, 1) := by decide +kernel
theorem dL_law_493 : decode cL_law 493 = .ok (.iadd, 1) := by decide +kernel
theorem dL_law_494 : decode cL_law 494 = .ok (.iaload, 1) := by decide +kernel
theorem dL_law_495 : decode cL_law 495 = .ok (.invokevirtual 60, 3) := by decide +kernel
theorem dL_law_498 : decode cL_law 498 = .ok (.aload_n 2, 1) := by decide +kernel
theorem dL_law_499 : decode cL_law 499 = .ok (.aload_n 0, 1) := by decide +kernel
theorem dL_law_500 : decode cL_law 500 = .ok (.iload_n 3, 1) := by decide +kernel
theorem dL_law_501 : decode cL_law 501 = .ok (.iconst 1, 1) := by decide +kernel
theorem dL_law_502 : decode cL_law 502 = .ok (.iadd, 1) := by decide +kernel
theorem dL_law_503 : decode cL_law 503 = .ok (.iaload, 1) := by decide +kernel
theorem dL_law_504 : decode cL_law 504 = .ok (.invokevirtual 63, 3) := by decide +kernel
theorem dL_law_507 : decode cL_law 507 = .ok (.if_icmp .eq 360, 3) := by decide +kernel
theorem dL_law_510 : decode cL_law 510 = .ok (.iconst 0, 1) := by decide +kernel
theorem dL_law_511 : decode cL_law 511 = .ok (.ireturn, 1) := by decide +kernel
theorem dL_law_512 : decode cL_law 512 = .ok (.aload_n 1, 1) := by decide +kernel
theorem dL_law_513 : decode cL_law 513 = .ok (.aload_n 0, 1) := by decide +kernel
theorem dL_law_514 : decode cL_law 514 = .ok (.iload_n 3, 1) := by decide +kernel
theorem dL_law_515 : decode cL_law 515 = .ok (.iconst 1, 1) := by decide +kernel
theorem dL_law_516 : decode cL_law 516 = .ok (.iadd, 1) := by decide +kernel
theorem dL_law_517 : decode cL_law 517 = .ok (.iaload, 1) := by decide +kernel
theorem dL_law_518 : decode cL_law 518 = .ok (.invokevirtual 64, 3) := by decide +kernel
theorem dL_law_521 : decode cL_law 521 = .ok (.aload_n 2, 1) := by decide +kernel
theorem dL_law_522 : decode cL_law 522 = .ok (.aload_n 0, 1) := by decide +kernel
theorem dL_law_523 : decode cL_law 523 = .ok (.iload_n 3, 1) := by decide +kernel
theorem dL_law_524 : decode cL_law 524 = .ok (.iconst 1, 1) := by decide +kernel
theorem dL_law_525 : decode cL_law 525 = .ok (.iadd, 1) := by decide +kernel
theorem dL_law_526 : decode cL_law 526 = .ok (.iaload, 1) := by decide +kernel
theorem dL_law_527 : decode cL_law 527 = .ok (.invokevirtual 67, 3) := by decide +kernel
theorem dL_law_530 : decode cL_law 530 = .ok (.if_icmp .eq 337, 3) := by decide +kernel
theorem dL_law_533 : decode cL_law 533 = .ok (.iconst 0, 1) := by decide +kernel
theorem dL_law_534 : decode cL_law 534 = .ok (.ireturn, 1) := by decide +kernel
theorem dL_law_535 : decode cL_law 535 = .ok (.aload_n 1, 1) := by decide +kernel
theorem dL_law_536 : decode cL_law 536 = .ok (.aload_n 0, 1) := by decide +kernel
theorem dL_law_537 : decode cL_law 537 = .ok (.iload_n 3, 1) := by decide +kernel
theorem dL_law_538 : decode cL_law 538 = .ok (.iconst 1, 1) := by decide +kernel
theorem dL_law_539 : decode cL_law 539 = .ok (.iadd, 1) := by decide +kernel
theorem dL_law_540 : decode cL_law 540 = .ok (.iaload, 1) := by decide +kernel
theorem dL_law_541 : decode cL_law 541 = .ok (.invokevirtual 68, 3) := by decide +kernel
theorem dL_law_544 : decode cL_law 544 = .ok (.aload_n 2, 1) := by decide +kernel
theorem dL_law_545 : decode cL_law 545 = .ok (.aload_n 0, 1) := by decide +kernel
theorem dL_law_546 : decode cL_law 546 = .ok (.iload_n 3, 1) := by decide +kernel
theorem dL_law_547 : decode cL_law 547 = .ok (.iconst 1, 1) := by decide +kernel
theorem dL_law_548 : decode cL_law 548 = .ok (.iadd, 1) := by decide +kernel
theorem dL_law_549 : decode cL_law 549 = .ok (.iaload, 1) := by decide +kernel
theorem dL_law_550 : decode cL_law 550 = .ok (.invokevirtual 71, 3) := by decide +kernel
theorem dL_law_553 : decode cL_law 553 = .ok (.if_icmp .eq 314, 3) := by decide +kernel
theorem dL_law_556 : decode cL_law 556 = .ok (.iconst 0, 1) := by decide +kernel
theorem dL_law_557 : decode cL_law 557 = .ok (.ireturn, 1) := by decide +kernel
theorem dL_law_558 : decode cL_law 558 = .ok (.aload_n 1, 1) := by decide +kernel
theorem dL_law_559 : decode cL_law 559 = .ok (.aload_n 0, 1) := by decide +kernel
theorem dL_law_560 : decode cL_law 560 = .ok (.iload_n 3, 1) := by decide +kernel
theorem dL_law_561 : decode cL_law 561 = .ok (.iconst 1, 1) := by decide +kernel
theorem dL_law_562 : decode cL_law 562 = .ok (.iadd, 1) := by decide +kernel
theorem dL_law_563 : decode cL_law 563 = .ok (.iaload, 1) := by decide +kernel
theorem dL_law_564 : decode cL_law 564 = .ok (.invokevirtual 72, 3) := by decide +kernel
theorem dL_law_567 : decode cL_law 567 = .ok (.aload_n 2, 1) := by decide +kernel
theorem dL_law_568 : decode cL_law 568 = .ok (.aload_n 0, 1) := by decide +kernel
theorem dL_law_569 : decode cL_law 569 = .ok (.iload_n 3, 1) := by decide +kernel
theorem dL_law_570 : decode cL_law 570 = .ok (.iconst 1, 1) := by decide +kernel
theorem dL_law_571 : decode cL_law 571 = .ok (.iadd, 1) := by decide +kernel
theorem dL_law_572 : decode cL_law 572 = .ok (.iaload, 1) := by decide +kernel
theorem dL_law_573 : decode cL_law 573 = .ok (.invokevirtual 75, 3) := by decide +kernel
theorem dL_law_576 : decode cL_law 576 = .ok (.if_icmp .eq 291, 3) := by decide +kernel
theorem dL_law_579 : decode cL_law 579 = .ok (.iconst 0, 1) := by decide +kernel
theorem dL_law_580 : decode cL_law 580 = .ok (.ireturn, 1) := by decide +kernel
theorem dL_law_581 : decode cL_law 581 = .ok (.aload_n 1, 1) := by decide +kernel
theorem dL_law_582 : decode cL_law 582 = .ok (.aload_n 0, 1) := by decide +kernel
theorem dL_law_583 : decode cL_law 583 = .ok (.iload_n 3, 1) := by decide +kernel
theorem dL_law_584 : decode cL_law 584 = .ok (.iconst 1, 1) := by decide +kernel
theorem dL_law_585 : decode cL_law 585 = .ok (.iadd, 1) := by decide +kernel
theorem dL_law_586 : decode cL_law 586 = .ok (.iaload, 1) := by decide +kernel
theorem dL_law_587 : decode cL_law 587 = .ok (.aload_n 0, 1) := by decide +kernel
theorem dL_law_588 : decode cL_law 588 = .ok (.iload_n 3, 1) := by decide +kernel
theorem dL_law_589 : decode cL_law 589 = .ok (.iconst 2, 1) := by decide +kernel
theorem dL_law_590 : decode cL_law 590 = .ok (.iadd, 1) := by decide +kernel
theorem dL_law_591 : decode cL_law 591 = .ok (.iaload, 1) := by decide +kernel
theorem dL_law_592 : decode cL_law 592 = .ok (.invokevirtual 76, 3) := by decide +kernel
theorem dL_law_595 : decode cL_law 595 = .ok (.aload_n 2, 1) := by decide +kernel
theorem dL_law_596 : decode cL_law 596 = .ok (.aload_n 0, 1) := by decide +kernel
theorem dL_law_597 : decode cL_law 597 = .ok (.iload_n 3, 1) := by decide +kernel
theorem dL_law_598 : decode cL_law 598 = .ok (.iconst 1, 1) := by decide +kernel
theorem dL_law_599 : decode cL_law 599 = .ok (.iadd, 1) := by decide +kernel
theorem dL_law_600 : decode cL_law 600 = .ok (.iaload, 1) := by decide +kernel
theorem dL_law_601 : decode cL_law 601 = .ok (.aload_n 0, 1) := by decide +kernel
theorem dL_law_602 : decode cL_law 602 = .ok (.iload_n 3, 1) := by decide +kernel
theorem dL_law_603 : decode cL_law 603 = .ok (.iconst 2, 1) := by decide +kernel
theorem dL_law_604 : decode cL_law 604 = .ok (.iadd, 1) := by decide +kernel
theorem dL_law_605 : decode cL_law 605 = .ok (.iaload, 1) := by decide +kernel
theorem dL_law_606 : decode cL_law 606 = .ok (.invokevirtual 79, 3) := by decide +kernel
theorem dL_law_609 : decode cL_law 609 = .ok (.if_icmp .eq 258, 3) := by decide +kernel
theorem dL_law_612 : decode cL_law 612 = .ok (.iconst 0, 1) := by decide +kernel
theorem dL_law_613 : decode cL_law 613 = .ok (.ireturn, 1) := by decide +kernel
theorem dL_law_614 : decode cL_law 614 = .ok (.aload_n 1, 1) := by decide +kernel
theorem dL_law_615 : decode cL_law 615 = .ok (.aload_n 0, 1) := by decide +kernel
theorem dL_law_616 : decode cL_law 616 = .ok (.iload_n 3, 1) := by decide +kernel
theorem dL_law_617 : decode cL_law 617 = .ok (.iconst 1, 1) := by decide +kernel
theorem dL_law_618 : decode cL_law 618 = .ok (.iadd, 1) := by decide +kernel
theorem dL_law_619 : decode cL_law 619 = .ok (.iaload, 1) := by decide +kernel
theorem dL_law_620 : decode cL_law 620 = .ok (.aload_n 0, 1) := by decide +kernel
theorem dL_law_621 : decode cL_law 621 = .ok (.iload_n 3, 1) := by decide +kernel
theorem dL_law_622 : decode cL_law 622 = .ok (.iconst 2, 1) := by decide +kernel
theorem dL_law_623 : decode cL_law 623 = .ok (.iadd, 1) := by decide +kernel
theorem dL_law_624 : decode cL_law 624 = .ok (.iaload, 1) := by decide +kernel
theorem dL_law_625 : decode cL_law 625 = .ok (.invokevirtual 80, 3) := by decide +kernel
theorem dL_law_628 : decode cL_law 628 = .ok (.aload_n 2, 1) := by decide +kernel
theorem dL_law_629 : decode cL_law 629 = .ok (.aload_n 0, 1) := by decide +kernel
theorem dL_law_630 : decode cL_law 630 = .ok (.iload_n 3, 1) := by decide +kernel
theorem dL_law_631 : decode cL_law 631 = .ok (.iconst 1, 1) := by decide +kernel
theorem dL_law_632 : decode cL_law 632 = .ok (.iadd, 1) := by decide +kernel
theorem dL_law_633 : decode cL_law 633 = .ok (.iaload, 1) := by decide +kernel
theorem dL_law_634 : decode cL_law 634 = .ok (.aload_n 0, 1) := by decide +kernel
theorem dL_law_635 : decode cL_law 635 = .ok (.iload_n 3, 1) := by decide +kernel
theorem dL_law_636 : decode cL_law 636 = .ok (.iconst 2, 1) := by decide +kernel
theorem dL_law_637 : decode cL_law 637 = .ok (.iadd, 1) := by decide +kernel
theorem dL_law_638 : decode cL_law 638 = .ok (.iaload, 1) := by decide +kernel
theorem dL_law_639 : decode cL_law 639 = .ok (.invokevirtual 83, 3) := by decide +kernel
theorem dL_law_642 : decode cL_law 642 = .ok (.if_icmp .eq 225, 3) := by decide +kernel
theorem dL_law_645 : decode cL_law 645 = .ok (.iconst 0, 1) := by decide +kernel
theorem dL_law_646 : decode cL_law 646 = .ok (.ireturn, 1) := by decide +kernel
theorem dL_law_647 : decode cL_law 647 = .ok (.aload_n 1, 1) := by decide +kernel
theorem dL_law_648 : decode cL_law 648 = .ok (.aload_n 0, 1) := by decide +kernel
theorem dL_law_649 : decode cL_law 649 = .ok (.iload_n 3, 1) := by decide +kernel
theorem dL_law_650 : decode cL_law 650 = .ok (.iconst 1, 1) := by decide +kernel
theorem dL_law_651 : decode cL_law 651 = .ok (.iadd, 1) := by decide +kernel
theorem dL_law_652 : decode cL_law 652 = .ok (.iaload, 1) := by decide +kernel
theorem dL_law_653 : decode cL_law 653 = .ok (.invokevirtual 84, 3) := by decide +kernel
theorem dL_law_656 : decode cL_law 656 = .ok (.aload_n 2, 1) := by decide +kernel
theorem dL_law_657 : decode cL_law 657 = .ok (.aload_n 0, 1) := by decide +kernel
theorem dL_law_658 : decode cL_law 658 = .ok (.iload_n 3, 1) := by decide +kernel
theorem dL_law_659 : decode cL_law 659 = .ok (.iconst 1, 1) := by decide +kernel
theorem dL_law_660 : decode cL_law 660 = .ok (.iadd, 1) := by decide +kernel
theorem dL_law_661 : decode cL_law 661 = .ok (.iaload, 1) := by decide +kernel
theorem dL_law_662 : decode cL_law 662 = .ok (.invokevirtual 87, 3) := by decide +kernel
theorem dL_law_665 : decode cL_law 665 = .ok (.if_icmp .eq 202, 3) := by decide +kernel
theorem dL_law_668 : decode cL_law 668 = .ok (.iconst 0, 1) := by decide +kernel
theorem dL_law_669 : decode cL_law 669 = .ok (.ireturn, 1) := by decide +kernel
theorem dL_law_670 : decode cL_law 670 = .ok (.aload_n 1, 1) := by decide +kernel
theorem dL_law_671 : decode cL_law 671 = .ok (.aload_n 0, 1) := by decide +kernel
theorem dL_law_672 : decode cL_law 672 = .ok (.iload_n 3, 1) := by decide +kernel
theorem dL_law_673 : decode cL_law 673 = .ok (.iconst 1, 1) := by decide +kernel
theorem dL_law_674 : decode cL_law 674 = .ok (.iadd, 1) := by decide +kernel
theorem dL_law_675 : decode cL_law 675 = .ok (.iaload, 1) := by decide +kernel
theorem dL_law_676 : decode cL_law 676 = .ok (.invokevirtual 88, 3) := by decide +kernel
theorem dL_law_679 : decode cL_law 679 = .ok (.aload_n 2, 1) := by decide +kernel
theorem dL_law_680 : decode cL_law 680 = .ok (.aload_n 0, 1) := by decide +kernel
theorem dL_law_681 : decode cL_law 681 = .ok (.iload_n 3, 1) := by decide +kernel
theorem dL_law_682 : decode cL_law 682 = .ok (.iconst 1, 1) := by decide +kernel
theorem dL_law_683 : decode cL_law 683 = .ok (.iadd, 1) := by decide +kernel
theorem dL_law_684 : decode cL_law 684 = .ok (.iaload, 1) := by decide +kernel
theorem dL_law_685 : decode cL_law 685 = .ok (.invokevirtual 91, 3) := by decide +kernel
theorem dL_law_688 : decode cL_law 688 = .ok (.if_icmp .eq 179, 3) := by decide +kernel
theorem dL_law_691 : decode cL_law 691 = .ok (.iconst 0, 1) := by decide +kernel
theorem dL_law_692 : decode cL_law 692 = .ok (.ireturn, 1) := by decide +kernel
theorem dL_law_693 : decode cL_law 693 = .ok (.aload_n 1, 1) := by decide +kernel
theorem dL_law_694 : decode cL_law 694 = .ok (.aload_n 0, 1) := by decide +kernel
theorem dL_law_695 : decode cL_law 695 = .ok (.iload_n 3, 1) := by decide +kernel
theorem dL_law_696 : decode cL_law 696 = .ok (.iconst 1, 1) := by decide +kernel
theorem dL_law_697 : decode cL_law 697 = .ok (.iadd, 1) := by decide +kernel
theorem dL_law_698 : decode cL_law 698 = .ok (.iaload, 1) := by decide +kernel
theorem dL_law_699 : decode cL_law 699 = .ok (.invokevirtual 92, 3) := by decide +kernel
theorem dL_law_702 : decode cL_law 702 = .ok (.aload_n 2, 1) := by decide +kernel
theorem dL_law_703 : decode cL_law 703 = .ok (.aload_n 0, 1) := by decide +kernel
theorem dL_law_704 : decode cL_law 704 = .ok (.iload_n 3, 1) := by decide +kernel
theorem dL_law_705 : decode cL_law 705 = .ok (.iconst 1, 1) := by decide +kernel
theorem dL_law_706 : decode cL_law 706 = .ok (.iadd, 1) := by decide +kernel
theorem dL_law_707 : decode cL_law 707 = .ok (.iaload, 1) := by decide +kernel
theorem dL_law_708 : decode cL_law 708 = .ok (.invokevirtual 95, 3) := by decide +kernel
theorem dL_law_711 : decode cL_law 711 = .ok (.if_icmp .eq 156, 3) := by decide +kernel
theorem dL_law_714 : decode cL_law 714 = .ok (.iconst 0, 1) := by decide +kernel
theorem dL_law_715 : decode cL_law 715 = .ok (.ireturn, 1) := by decide +kernel
theorem dL_law_716 : decode cL_law 716 = .ok (.aload_n 1, 1) := by decide +kernel
theorem dL_law_717 : decode cL_law 717 = .ok (.aload_n 0, 1) := by decide +kernel
theorem dL_law_718 : decode cL_law 718 = .ok (.iload_n 3, 1) := by decide +kernel
theorem dL_law_719 : decode cL_law 719 = .ok (.iconst 1, 1) := by decide +kernel
theorem dL_law_720 : decode cL_law 720 = .ok (.iadd, 1) := by decide +kernel
theorem dL_law_721 : decode cL_law 721 = .ok (.iaload, 1) := by decide +kernel
theorem dL_law_722 : decode cL_law 722 = .ok (.invokevirtual 96, 3) := by decide +kernel
theorem dL_law_725 : decode cL_law 725 = .ok (.aload_n 2, 1) := by decide +kernel
theorem dL_law_726 : decode cL_law 726 = .ok (.aload_n 0, 1) := by decide +kernel
theorem dL_law_727 : decode cL_law 727 = .ok (.iload_n 3, 1) := by decide +kernel
theorem dL_law_728 : decode cL_law 728 = .ok (.iconst 1, 1) := by decide +kernel
theorem dL_law_729 : decode cL_law 729 = .ok (.iadd, 1) := by decide +kernel
theorem dL_law_730 : decode cL_law 730 = .ok (.iaload, 1) := by decide +kernel
theorem dL_law_731 : decode cL_law 731 = .ok (.invokevirtual 99, 3) := by decide +kernel
theorem dL_law_734 : decode cL_law 734 = .ok (.if_icmp .eq 133, 3) := by decide +kernel
theorem dL_law_737 : decode cL_law 737 = .ok (.iconst 0, 1) := by decide +kernel
theorem dL_law_738 : decode cL_law 738 = .ok (.ireturn, 1) := by decide +kernel
theorem dL_law_739 : decode cL_law 739 = .ok (.aload_n 1, 1) := by decide +kernel
theorem dL_law_740 : decode cL_law 740 = .ok (.aload_n 0, 1) := by decide +kernel
theorem dL_law_741 : decode cL_law 741 = .ok (.iload_n 3, 1) := by decide +kernel
theorem dL_law_742 : decode cL_law 742 = .ok (.iconst 1, 1) := by decide +kernel
theorem dL_law_743 : decode cL_law 743 = .ok (.iadd, 1) := by decide +kernel
theorem dL_law_744 : decode cL_law 744 = .ok (.iaload, 1) := by decide +kernel
theorem dL_law_745 : decode cL_law 745 = .ok (.invokevirtual 100, 3) := by decide +kernel
theorem dL_law_748 : decode cL_law 748 = .ok (.aload_n 2, 1) := by decide +kernel
theorem dL_law_749 : decode cL_law 749 = .ok (.aload_n 0, 1) := by decide +kernel
theorem dL_law_750 : decode cL_law 750 = .ok (.iload_n 3, 1) := by decide +kernel
theorem dL_law_751 : decode cL_law 751 = .ok (.iconst 1, 1) := by decide +kernel
theorem dL_law_752 : decode cL_law 752 = .ok (.iadd, 1) := by decide +kernel
theorem dL_law_753 : decode cL_law 753 = .ok (.iaload, 1) := by decide +kernel
theorem dL_law_754 : decode cL_law 754 = .ok (.invokevirtual 103, 3) := by decide +kernel
theorem dL_law_757 : decode cL_law 757 = .ok (.if_icmp .eq 110, 3) := by decide +kernel
theorem dL_law_760 : decode cL_law 760 = .ok (.iconst 0, 1) := by decide +kernel
theorem dL_law_761 : decode cL_law 761 = .ok (.ireturn, 1) := by decide +kernel
theorem dL_law_762 : decode cL_law 762 = .ok (.aload_n 1, 1) := by decide +kernel
theorem dL_law_763 : decode cL_law 763 = .ok (.aload_n 0, 1) := by decide +kernel
theorem dL_law_764 : decode cL_law 764 = .ok (.iload_n 3, 1) := by decide +kernel
theorem dL_law_765 : decode cL_law 765 = .ok (.iconst 1, 1) := by decide +kernel
theorem dL_law_766 : decode cL_law 766 = .ok (.iadd, 1) := by decide +kernel
theorem dL_law_767 : decode cL_law 767 = .ok (.iaload, 1) := by decide +kernel
theorem dL_law_768 : decode cL_law 768 = .ok (.aload_n 0, 1) := by decide +kernel
theorem dL_law_769 : decode cL_law 769 = .ok (.iload_n 3, 1) := by decide +kernel
theorem dL_law_770 : decode cL_law 770 = .ok (.iconst 2, 1) := by decide +kernel
theorem dL_law_771 : decode cL_law 771 = .ok (.iadd, 1) := by decide +kernel
theorem dL_law_772 : decode cL_law 772 = .ok (.iaload, 1) := by decide +kernel
theorem dL_law_773 : decode cL_law 773 = .ok (.invokevirtual 104, 3) := by decide +kernel
theorem dL_law_776 : decode cL_law 776 = .ok (.aload_n 2, 1) := by decide +kernel
theorem dL_law_777 : decode cL_law 777 = .ok (.aload_n 0, 1) := by decide +kernel
theorem dL_law_778 : decode cL_law 778 = .ok (.iload_n 3, 1) := by decide +kernel
theorem dL_law_779 : decode cL_law 779 = .ok (.iconst 1, 1) := by decide +kernel
theorem dL_law_780 : decode cL_law 780 = .ok (.iadd, 1) := by decide +kernel
theorem dL_law_781 : decode cL_law 781 = .ok (.iaload, 1) := by decide +kernel
theorem dL_law_782 : decode cL_law 782 = .ok (.aload_n 0, 1) := by decide +kernel
theorem dL_law_783 : decode cL_law 783 = .ok (.iload_n 3, 1) := by decide +kernel
theorem dL_law_784 : decode cL_law 784 = .ok (.iconst 2, 1) := by decide +kernel
theorem dL_law_785 : decode cL_law 785 = .ok (.iadd, 1) := by decide +kernel
theorem dL_law_786 : decode cL_law 786 = .ok (.iaload, 1) := by decide +kernel
theorem dL_law_787 : decode cL_law 787 = .ok (.invokevirtual 107, 3) := by decide +kernel
theorem dL_law_790 : decode cL_law 790 = .ok (.if_icmp .eq 77, 3) := by decide +kernel
theorem dL_law_793 : decode cL_law 793 = .ok (.iconst 0, 1) := by decide +kernel
theorem dL_law_794 : decode cL_law 794 = .ok (.ireturn, 1) := by decide +kernel
theorem dL_law_795 : decode cL_law 795 = .ok (.aload_n 1, 1) := by decide +kernel
theorem dL_law_796 : decode cL_law 796 = .ok (.invokevirtual 108, 3) := by decide +kernel
theorem dL_law_799 : decode cL_law 799 = .ok (.aload_n 2, 1) := by decide +kernel
theorem dL_law_800 : decode cL_law 800 = .ok (.invokevirtual 112, 3) := by decide +kernel
theorem dL_law_803 : decode cL_law 803 = .ok (.if_icmp .eq 64, 3) := by decide +kernel
theorem dL_law_806 : decode cL_law 806 = .ok (.iconst 0, 1) := by decide +kernel
theorem dL_law_807 : decode cL_law 807 = .ok (.ireturn, 1) := by decide +kernel
theorem dL_law_808 : decode cL_law 808 = .ok (.aload_n 1, 1) := by decide +kernel
theorem dL_law_809 : decode cL_law 809 = .ok (.aload_n 0, 1) := by decide +kernel
theorem dL_law_810 : decode cL_law 810 = .ok (.iload_n 3, 1) := by decide +kernel
theorem dL_law_811 : decode cL_law 811 = .ok (.iconst 1, 1) := by decide +kernel
theorem dL_law_812 : decode cL_law 812 = .ok (.iadd, 1) := by decide +kernel
theorem dL_law_813 : decode cL_law 813 = .ok (.iaload, 1) := by decide +kernel
theorem dL_law_814 : decode cL_law 814 = .ok (.invokevirtual 113, 3) := by decide +kernel
theorem dL_law_817 : decode cL_law 817 = .ok (.aload_n 2, 1) := by decide +kernel
theorem dL_law_818 : decode cL_law 818 = .ok (.aload_n 0, 1) := by decide +kernel
theorem dL_law_819 : decode cL_law 819 = .ok (.iload_n 3, 1) := by decide +kernel
theorem dL_law_820 : decode cL_law 820 = .ok (.iconst 1, 1) := by decide +kernel
theorem dL_law_821 : decode cL_law 821 = .ok (.iadd, 1) := by decide +kernel
theorem dL_law_822 : decode cL_law 822 = .ok (.iaload, 1) := by decide +kernel
theorem dL_law_823 : decode cL_law 823 = .ok (.invokevirtual 116, 3) := by decide +kernel
theorem dL_law_826 : decode cL_law 826 = .ok (.if_icmp .eq 41, 3) := by decide +kernel
theorem dL_law_829 : decode cL_law 829 = .ok (.iconst 0, 1) := by decide +kernel
theorem dL_law_830 : decode cL_law 830 = .ok (.ireturn, 1) := by decide +kernel
theorem dL_law_831 : decode cL_law 831 = .ok (.aload_n 1, 1) := by decide +kernel
theorem dL_law_832 : decode cL_law 832 = .ok (.invokevirtual 117, 3) := by decide +kernel
theorem dL_law_835 : decode cL_law 835 = .ok (.aload_n 2, 1) := by decide +kernel
theorem dL_law_836 : decode cL_law 836 = .ok (.invokevirtual 120, 3) := by decide +kernel
theorem dL_law_839 : decode cL_law 839 = .ok (.if_icmp .eq 28, 3) := by decide +kernel
theorem dL_law_842 : decode cL_law 842 = .ok (.iconst 0, 1) := by decide +kernel
theorem dL_law_843 : decode cL_law 843 = .ok (.ireturn, 1) := by decide +kernel
theorem dL_law_844 : decode cL_law 844 = .ok (.aload_n 1, 1) := by decide +kernel
theorem dL_law_845 : decode cL_law 845 = .ok (.aload_n 0, 1) := by decide +kernel
theorem dL_law_846 : decode cL_law 846 = .ok (.iload_n 3, 1) := by decide +kernel
theorem dL_law_847 : decode cL_law 847 = .ok (.iconst 1, 1) := by decide +kernel
theorem dL_law_848 : decode cL_law 848 = .ok (.iadd, 1) := by decide +kernel
theorem dL_law_849 : decode cL_law 849 = .ok (.iaload, 1) := by decide +kernel
theorem dL_law_850 : decode cL_law 850 = .ok (.invokevirtual 121, 3) := by decide +kernel
theorem dL_law_853 : decode cL_law 853 = .ok (.aload_n 2, 1) := by decide +kernel
theorem dL_law_854 : decode cL_law 854 = .ok (.aload_n 0, 1) := by decide +kernel
theorem dL_law_855 : decode cL_law 855 = .ok (.iload_n 3, 1) := by decide +kernel
theorem dL_law_856 : decode cL_law 856 = .ok (.iconst 1, 1) := by decide +kernel
theorem dL_law_857 : decode cL_law 857 = .ok (.iadd, 1) := by decide +kernel
theorem dL_law_858 : decode cL_law 858 = .ok (.iaload, 1) := by decide +kernel
theorem dL_law_859 : decode cL_law 859 = .ok (.invokevirtual 124, 3) := by decide +kernel
theorem dL_law_862 : decode cL_law 862 = .ok (.if_icmp .eq 5, 3) := by decide +kernel
theorem dL_law_865 : decode cL_law 865 = .ok (.iconst 0, 1) := by decide +kernel
theorem dL_law_866 : decode cL_law 866 = .ok (.ireturn, 1) := by decide +kernel
theorem dL_law_867 : decode cL_law 867 = .ok (.iinc 3 5, 3) := by decide +kernel
theorem dL_law_870 : decode cL_law 870 = .ok (.goto (-852), 3) := by decide +kernel
theorem dL_law_873 : decode cL_law 873 = .ok (.iconst 1, 1) := by decide +kernel
theorem dL_law_874 : decode cL_law 874 = .ok (.ireturn, 1) := by decide +kernel
end
section
/-! ===== the frame of this proof: numbers as Int, entries of the heap, a judgement over a predicate of the heap ===== -/
def vi (z : Int) : Value := .int (Int32.ofInt z)
abbrev xG : Type := va_G × (Nat → ClassId)
def xTys (G : xG) : List (ClassId × FieldType) := [(G.2 0, .int), (G.2 1, .char), (G.2 2, .array .int), (G.2 3, .object "BatchExecutive$Unit"), (G.2 4, .object "BatchExecutive$Batch"), (G.2 5, .object "BatchExecutive$State")]
/-- an array of arrays: as va_AO, over an array type -/
def xAOA (t : FieldType) (U : State) : Prop := (Cond.arrayOver (.array t)).before #[] U = true
theorem xAOA.moved {t : FieldType} {u U : State} (hvm : u.vm.Alike U.vm) (h : xAOA t u) : xAOA t U := by
  have h1 : (Cond.arrayOver (.array t)).before #[] (u.setVm U.vm) = true := by rw [Cond.arrayOver_setVmC hvm]; exact h
  exact h1
/-- the words of the tables that no list of words may hold: links of nest mates, arrays of references -/
def xN (U : State) : Prop := (va_Nw (.methodLinkNest RX6 9 yX1_init RX6) U ∧ va_Nw (.methodLinkNest RX6 18 yX4_init RX6) U ∧ va_Nw (.methodLinkNest RX3 32 yX2_init RX6) U ∧ va_Nw (.methodLinkNest RX3 48 yX5_init RX6) U ∧ va_Nw (.methodLinkNest RX3 49 yX0_init RX6) U ∧ va_Nw (.methodLinkNest RX4 69 yX6_oneIf RX6) U) ∧
  va_AO "BatchExecutive$Unit" U ∧ va_AO "BatchExecutive$Batch" U ∧ va_AO "BatchExecutive$State" U ∧ xAOA .int U
theorem xN.warm {s U : State} (hW : s.WarmedH U.vm) (h : xN s) : xN U := by
  obtain ⟨⟨h1, h2, h3, h4, h5, h6⟩, h7, h8, h9, h10⟩ := h
  exact ⟨⟨h1.warmM hW, h2.warmM hW, h3.warmM hW, h4.warmM hW, h5.warmM hW, h6.warmM hW⟩, h7.moved hW.alike, h8.moved hW.alike, h9.moved hW.alike, h10.moved hW.alike⟩
theorem xN.same {s U : State} (e : s.vm = U.vm) (h : xN s) : xN U := by
  obtain ⟨⟨h1, h2, h3, h4, h5, h6⟩, h7, h8, h9, h10⟩ := h
  have ha : s.vm.Alike U.vm := by rw [e]; exact Vm.Alike.refl _
  exact ⟨⟨h1.same rfl e, h2.same rfl e, h3.same rfl e, h4.same rfl e, h5.same rfl e, h6.same rfl e⟩, h7.moved ha, h8.moved ha, h9.moved ha, h10.moved ha⟩
def xK (G : xG) (U : State) : Prop := va_K G.1 vwCl (xTys G) U ∧ xN U
theorem xK.warm {G : xG} {s U : State} (hW : s.WarmedH U.vm) (h : xK G s) : xK G U := ⟨h.1.moved hW.alike, h.2.warm hW⟩
theorem xK.same {G : xG} {s U : State} (e : s.vm = U.vm) (h : xK G s) : xK G U := ⟨h.1.moved (by rw [e]; exact Vm.Alike.refl _), h.2.same e⟩
theorem wone {D : va_G} {cl : List vw_C} {q : Nat × va_E} {H : Heap} (h : va_at D cl q H) : va_P D cl [q] H := by
  intro k q' hk
  have hz : k < 1 := (List.getElem?_eq_some_iff.mp hk).1
  rw [show k = 0 by omega] at hk
  cases hk
  exact h
/-- an object's fields; an int array's, a char array's, an array of references' contents -/
def oat (G : xG) (a ci : Nat) (fs : List Value) (H : Heap) : Prop := va_at G.1 vwCl (a, .inr (ci, fs)) H
def aat (G : xG) (j a n : Nat) (f : Int → Int) (H : Heap) : Prop := va_at G.1 vwCl (a, .inl (G.2 j, n, .inl (fun k => Int32.ofInt (f (k : Int))))) H
def rat (G : xG) (j a n : Nat) (f : Nat → Option Nat) (H : Heap) : Prop := va_at G.1 vwCl (a, .inl (G.2 j, n, .inr (.inr (.inr (.inr f))))) H
theorem oat.kept {G : xG} {a ci : Nat} {fs : List Value} {H H1 : Heap} (h : oat G a ci fs H) (hq : H1[a]? = H[a]?) : oat G a ci fs H1 := va_at.kept h hq
theorem aat.kept {G : xG} {j a n : Nat} {f : Int → Int} {H H1 : Heap} (h : aat G j a n f H) (hq : H1[a]? = H[a]?) : aat G j a n f H1 := va_at.kept h hq
theorem rat.kept {G : xG} {j a n : Nat} {f : Nat → Option Nat} {H H1 : Heap} (h : rat G j a n f H) (hq : H1[a]? = H[a]?) : rat G j a n f H1 := va_at.kept h hq
theorem oat.lt {G : xG} {a ci : Nat} {fs : List Value} {H : Heap} (h : oat G a ci fs H) : a < H.size := va_at.lt h
theorem aat.lt {G : xG} {j a n : Nat} {f : Int → Int} {H : Heap} (h : aat G j a n f H) : a < H.size := va_at.lt h
theorem rat.lt {G : xG} {j a n : Nat} {f : Nat → Option Nat} {H : Heap} (h : rat G j a n f H) : a < H.size := va_at.lt h
/-- f, but v at k -/
def up (f : Int → Int) (k v : Int) : Int → Int := fun j => if j = k then v else f j
theorem up_eq {f : Int → Int} {k v j : Int} (h : j = k) : up f k v j = v := if_pos h
theorem up_ne {f : Int → Int} {k v j : Int} (h : j ≠ k) : up f k v j = f j := if_neg h
theorem aat.congr {G : xG} {j a n : Nat} {f g : Int → Int} {H : Heap} (h : aat G j a n f H) (e : ∀ k : Int, 0 ≤ k → k < n → f k = g k) : aat G j a n g H := by
  have h1 : H[a]? = some (vp_cell (G.2 j) (n, .inl (fun k => Int32.ofInt (f (k : Int))))) := h
  show H[a]? = some (vp_cell (G.2 j) (n, .inl (fun k => Int32.ofInt (g (k : Int)))))
  rw [h1, vp_cell_i, vp_cell_i]
  unfold arrV
  congr 2
  congr 1
  funext k
  show Value.int (Int32.ofInt (f (k.val : Int))) = Value.int (Int32.ofInt (g (k.val : Int)))
  rw [e (k.val : Int) (by omega) (by have := k.isLt; omega)]
-- locals
def lget : List (Nat × Value) → Nat → Option Value
  | [], _ => none
  | q :: l, i => bif Nat.beq q.1 i then some q.2 else lget l i
def lrm : List (Nat × Value) → Nat → List (Nat × Value)
  | [], _ => []
  | q :: l, i => bif Nat.beq q.1 i then lrm l i else q :: lrm l i
def lset : List (Nat × Value) → Nat → Value → List (Nat × Value)
  | [], i, v => [(i, v)]
  | q :: l, i, v => bif Nat.beq q.1 i then (i, v) :: lrm l i else q :: lset l i v
theorem lrm_mem : ∀ {l : List (Nat × Value)} {i : Nat} {q : Nat × Value}, q ∈ lrm l i → q ∈ l ∧ q.1 ≠ i
  | [], i, q, h => by cases h
  | x :: l, i, q, h => by
    unfold lrm at h
    cases hb : Nat.beq x.1 i with
    | true =>
      rw [hb] at h
      exact ⟨List.mem_cons_of_mem _ (lrm_mem h).1, (lrm_mem h).2⟩
    | false =>
      rw [hb] at h
      rcases List.mem_cons.mp h with h | h
      · refine ⟨by rw [h]; exact List.mem_cons_self, fun e => ?_⟩
        rw [h] at e
        rw [e] at hb
        simp at hb
      · exact ⟨List.mem_cons_of_mem _ (lrm_mem h).1, (lrm_mem h).2⟩
theorem lget_mem : ∀ {l : List (Nat × Value)} {i : Nat} {v : Value}, lget l i = some v → (i, v) ∈ l
  | [], i, v, h => by cases h
  | q :: l, i, v, h => by
    unfold lget at h
    cases hb : Nat.beq q.1 i with
    | true =>
      rw [hb] at h
      have e := Nat.eq_of_beq_eq_true hb
      have h2 : q.2 = v := Option.some.inj h
      rw [← e, ← h2]
      exact List.mem_cons_self
    | false =>
      rw [hb] at h
      exact List.mem_cons_of_mem _ (lget_mem h)
theorem lset_mem : ∀ {l : List (Nat × Value)} {i : Nat} {v : Value} {q : Nat × Value}, q ∈ lset l i v → q = (i, v) ∨ (q ∈ l ∧ q.1 ≠ i)
  | [], i, v, q, h => by
    left
    simpa [lset] using h
  | x :: l, i, v, q, h => by
    unfold lset at h
    cases hb : Nat.beq x.1 i with
    | true =>
      rw [hb] at h
      rcases List.mem_cons.mp h with h | h
      · exact Or.inl h
      · exact Or.inr ⟨List.mem_cons_of_mem _ (lrm_mem h).1, (lrm_mem h).2⟩
    | false =>
      rw [hb] at h
      rcases List.mem_cons.mp h with h | h
      · refine Or.inr ⟨by rw [h]; exact List.mem_cons_self, fun e => ?_⟩
        rw [h] at e
        rw [e] at hb
        simp at hb
      · rcases lset_mem h with h | h
        · exact Or.inl h
        · exact Or.inr ⟨List.mem_cons_of_mem _ h.1, h.2⟩
def lhas (ls : Array Slot) (nL : Nat) (L : List (Nat × Value)) : Prop := lv_has ls nL L ∧ ∀ q ∈ L, q.2.category = 1
theorem lhas.get {ls : Array Slot} {nL : Nat} {L : List (Nat × Value)} (h : lhas ls nL L) {i : Nat} {v : Value} (hg : lget L i = some v) : ls[i]? = some (.val v) := h.1.2.2 (i, v) (lget_mem hg)
theorem lhas.cat {ls : Array Slot} {nL : Nat} {L : List (Nat × Value)} (h : lhas ls nL L) {i : Nat} {v : Value} (hg : lget L i = some v) : v.category = 1 := h.2 (i, v) (lget_mem hg)
theorem lhas.set {ls ls' : Array Slot} {nL : Nat} {L : List (Nat × Value)} {i : Nat} {v : Value} (h : lhas ls nL L) (hc : v.category = 1) (h' : lv_has ls' nL ((i, v) :: L.filter (fun q => !(q.1 == i) && !(q.1 + 1 == i && q.2.category == 2)))) : lhas ls' nL (lset L i v) := by
  refine ⟨⟨h'.1, h'.2.1, fun q hq => ?_⟩, fun q hq => ?_⟩
  · rcases lset_mem hq with e | ⟨e1, e2⟩
    · exact h'.2.2 q (by rw [e]; exact List.mem_cons_self)
    · refine h'.2.2 q (List.mem_cons_of_mem _ (List.mem_filter.mpr ⟨e1, ?_⟩))
      have e3 := h.2 q e1
      simp [e2, e3]
  · rcases lset_mem hq with e | ⟨e1, e2⟩
    · rw [e]; exact hc
    · exact h.2 q e1
theorem lhas.mono {ls : Array Slot} {nL : Nat} {L L' : List (Nat × Value)} (h : lhas ls nL L) (hs : ∀ q ∈ L', q ∈ L) : lhas ls nL L' := ⟨⟨h.1.1, h.1.2.1, fun q hq => h.1.2.2 q (hs q hq)⟩, fun q hq => h.2 q (hs q hq)⟩
-- the frame
abbrev xE : Type := Program × Launch × Env × Room × State × MethodId × Array Value × List Frame × Method × Code × (Nat → Prop) × (State → Prop)
/-- from every heap of the predicate P, at pc, with the locals L and the stack st, the machine comes to Q -/
def XJ (Γ : xE) (kc ks : Nat) (P : Heap → Prop) (pc : Nat) (L : List (Nat × Value)) (st : List Value) : Prop :=
  match Γ with
  | (p, l, e, R, s, m, args, below, meth, c, A, Q) => ∀ (H : Heap) (locs : List Loc) (ls : Array Slot), P H → va_S A s.heap H locs → lhas ls c.maxLocals L → W p l e R s m args below meth c H locs kc ks Q (F0 m pc ls st)
def XB (Γ : xE) (G : xG) (cc : ByteArray) (own : String) (nL : Nat) (rm : Room) (A : Nat → Prop) : Prop :=
  match Γ with
  | (p, _, _, R, s, m, args, _, _, c, A', _) => p.tables.exec = Jvm.exec ∧ c.code = cc ∧ c.maxLocals = nL ∧ s.vm.findClass own = some m.cls ∧ (∀ w ∈ xw, w.before args s = true) ∧ xK G s ∧ R = rm ∧ A' = A
def XR (Γ : xE) (nm : String) (ret : Option FieldType) (mc ms : Nat) (Qc : Array Value → State → Outcome → State → Prop) : Prop :=
  match Γ with
  | (_, _, _, _, s, _, args, below, meth, _, A, Q) => meth.sig.returnType = ret ∧ meth.locks = false ∧ meth.name = nm ∧ Q = MQ below Qc args s mc ms A
/-- a method's end: what it returned, and its heap; nothing outside A changed -/
def xQ (post : Option Value → Heap → Prop) (A : Nat → Prop) : Array Value → State → Outcome → State → Prop := fun _ st oc t => ∃ v, oc = .returned v ∧ post v t.heap ∧ va_F A st t
/-- a method's contract -/
def CT (G : xG) (l : Launch) (y : MethodName) (cc : ByteArray) (nL : Nat) (ret : Option FieldType) (rm : Room) (mc ms : Nat) (av : List Value) (P : Heap → Prop) (post : Option Value → Heap → Prop) (A : Nat → Prop) : Prop :=
  Met l y (Cond.code y cc nL ret :: xw) rm (va_Pc av (fun U => P U.heap ∧ xK G U)) (xQ post A) mc ms A
theorem x_met {G : xG} {l : Launch} {y : MethodName} {cc : ByteArray} {nL : Nat} {ret : Option FieldType} {rm : Room} {mc ms : Nat} {av : List Value} {P : Heap → Prop} {post : Option Value → Heap → Prop} {A : Nat → Prop} {L : List (Nat × Value)}
    (hp : plainName y.cls = true) (hrm : ∀ ws, (headSpec ws rm).room = rm) (hn : (lg_sl av).length ≤ nL) (hL : lv_args 0 av = L) (hc : ∀ q ∈ L, q.2.category = 1)
    (body : ∀ Γ : xE, Γ.2.1 = l → XB Γ G cc y.cls nL rm A → XR Γ y.name ret mc ms (xQ post A) → XJ Γ 0 0 P 0 L []) : CT G l y cc nL ret rm mc ms av P post A := by
  unfold CT
  refine Met.ofW (cc := cc) (maxL := nL) (ret := ret) hp rfl ?_
  intro p e s m args below meth c s₁ B hml hv
  obtain ⟨rfl, hP, hK⟩ := hv
  have hts := atoms_spec (ws := Cond.code y cc nL ret :: xw) B.pre
  have hown : s.vm.findClass y.cls = some m.cls := findClass_of_methodNamed B.named
  have hnm : meth.name = y.name := (name_of_methodNamed B.named B.method).1
  have h := body (p, l, e, (headSpec (Cond.code y cc nL ret :: xw) rm).room, s, m, av.toArray, below, meth, c, A, MQ below (xQ post A) av.toArray s mc ms A) rfl
    ⟨B.exec, B.bytes, hml, hown, fun w hw => hts w (List.mem_cons_of_mem _ hw), hK, hrm _, rfl⟩ ⟨B.returns, B.notSynchronized, hnm, rfl⟩
  have hl := lv_entry av (n := nL) hn
  rw [lg_entry_eq]
  refine h s.heap [] _ hP va_S.rf ?_
  rw [hml]
  exact ⟨by rw [← hL]; exact hl, hc⟩
-- the plain rows
section XR1
variable {Γ : xE} {G : xG} {cc : ByteArray} {own : String} {nL : Nat} {rm : Room} {A : Nat → Prop} {kc ks pc : Nat} {P : Heap → Prop} {L : List (Nat × Value)} {st : List Value}
theorem x_iconst (B : XB Γ G cc own nL rm A) {n : Int} (d : decode cc pc = .ok (.iconst n, 1)) (k : XJ Γ kc ks P (pc + 1) L (vi n :: st)) : XJ Γ kc ks P pc L st := by
  obtain ⟨p, l, e, R, s, m, args, below, meth, c, A', Q⟩ := Γ
  obtain ⟨hx, hb, hml, -⟩ := B
  intro H locs ls hP hS hL
  exact lv_iconst hx hb d rfl (k H locs ls hP hS hL)
theorem x_bipush (B : XB Γ G cc own nL rm A) {n : Int} (d : decode cc pc = .ok (.bipush n, 2)) (hv : (Int8.ofInt n).toInt32 = Int32.ofInt n) (k : XJ Γ kc ks P (pc + 2) L (vi n :: st)) : XJ Γ kc ks P pc L st := by
  obtain ⟨p, l, e, R, s, m, args, below, meth, c, A', Q⟩ := Γ
  obtain ⟨hx, hb, hml, -⟩ := B
  intro H locs ls hP hS hL
  exact lv_bipush hx hb d hv (k H locs ls hP hS hL)
theorem x_sipush (B : XB Γ G cc own nL rm A) {n : Int} (d : decode cc pc = .ok (.sipush n, 3)) (hv : (Int16.ofInt n).toInt32 = Int32.ofInt n) (k : XJ Γ kc ks P (pc + 3) L (vi n :: st)) : XJ Γ kc ks P pc L st := by
  obtain ⟨p, l, e, R, s, m, args, below, meth, c, A', Q⟩ := Γ
  obtain ⟨hx, hb, hml, -⟩ := B
  intro H locs ls hP hS hL
  exact lv_sipush hx hb d hv (k H locs ls hP hS hL)
theorem x_ldc (B : XB Γ G cc own nL rm A) {index : Nat} {n : Int} {v : Int32} (d : decode cc pc = .ok (.ldc index, 2)) (hw : Cond.constant own index v ∈ xw) (hv : v = Int32.ofInt n) (k : XJ Γ kc ks P (pc + 2) L (vi n :: st)) : XJ Γ kc ks P pc L st := by
  obtain ⟨p, l, e, R, s, m, args, below, meth, c, A', Q⟩ := Γ
  obtain ⟨hx, hb, hml, ho, hts, -⟩ := B
  intro H locs ls hP hS hL
  subst hv
  exact lv_ldc hx hb ho (hts _ hw) d (k H locs ls hP hS hL)
theorem x_iload_n (B : XB Γ G cc own nL rm A) {i : Fin 4} {x : Int} (d : decode cc pc = .ok (.iload_n i, 1)) (hl : lget L i = some (vi x)) (k : XJ Γ kc ks P (pc + 1) L (vi x :: st)) : XJ Γ kc ks P pc L st := by
  obtain ⟨p, l, e, R, s, m, args, below, meth, c, A', Q⟩ := Γ
  obtain ⟨hx, hb, hml, -⟩ := B
  intro H locs ls hP hS hL
  exact lv_iload_n hx hb d rfl (hL.get hl) (k H locs ls hP hS hL)
theorem x_iload (B : XB Γ G cc own nL rm A) {i : Nat} {x : Int} (d : decode cc pc = .ok (.iload i, 2)) (hl : lget L i = some (vi x)) (k : XJ Γ kc ks P (pc + 2) L (vi x :: st)) : XJ Γ kc ks P pc L st := by
  obtain ⟨p, l, e, R, s, m, args, below, meth, c, A', Q⟩ := Γ
  obtain ⟨hx, hb, hml, -⟩ := B
  intro H locs ls hP hS hL
  exact lv_iload hx hb d (hL.get hl) (k H locs ls hP hS hL)
theorem x_aload_n (B : XB Γ G cc own nL rm A) {i : Fin 4} {a : Nat} (d : decode cc pc = .ok (.aload_n i, 1)) (hl : lget L i = some (.ref a)) (k : XJ Γ kc ks P (pc + 1) L (.ref a :: st)) : XJ Γ kc ks P pc L st := by
  obtain ⟨p, l, e, R, s, m, args, below, meth, c, A', Q⟩ := Γ
  obtain ⟨hx, hb, hml, -⟩ := B
  intro H locs ls hP hS hL
  exact lv_aload_n hx hb d rfl (hL.get hl) (k H locs ls hP hS hL)
theorem x_aload (B : XB Γ G cc own nL rm A) {i : Nat} {a : Nat} (d : decode cc pc = .ok (.aload i, 2)) (hl : lget L i = some (.ref a)) (k : XJ Γ kc ks P (pc + 2) L (.ref a :: st)) : XJ Γ kc ks P pc L st := by
  obtain ⟨p, l, e, R, s, m, args, below, meth, c, A', Q⟩ := Γ
  obtain ⟨hx, hb, hml, -⟩ := B
  intro H locs ls hP hS hL
  exact lv_aload hx hb d (hL.get hl) (k H locs ls hP hS hL)
theorem x_fload_n (B : XB Γ G cc own nL rm A) {i : Fin 4} {x : UInt32} (d : decode cc pc = .ok (.fload_n i, 1)) (hl : lget L i = some (.float x)) (k : XJ Γ kc ks P (pc + 1) L (.float x :: st)) : XJ Γ kc ks P pc L st := by
  obtain ⟨p, l, e, R, s, m, args, below, meth, c, A', Q⟩ := Γ
  obtain ⟨hx, hb, hml, -⟩ := B
  intro H locs ls hP hS hL
  exact lv_fload_n hx hb d rfl (hL.get hl) (k H locs ls hP hS hL)
theorem x_istore_n (B : XB Γ G cc own nL rm A) {i : Fin 4} {x : Int} (d : decode cc pc = .ok (.istore_n i, 1)) (hi : (i : Nat) < nL) (k : XJ Γ kc ks P (pc + 1) (lset L i (vi x)) st) : XJ Γ kc ks P pc L (vi x :: st) := by
  obtain ⟨p, l, e, R, s, m, args, below, meth, c, A', Q⟩ := Γ
  obtain ⟨hx, hb, hml, -⟩ := B
  intro H locs ls hP hS hL
  exact lv_istore_n hx hb d rfl hL.1 (by rw [hml]; exact hi) rfl (fun ls' h' => k H locs ls' hP hS (hL.set rfl h'))
theorem x_istore (B : XB Γ G cc own nL rm A) {i : Nat} {x : Int} (d : decode cc pc = .ok (.istore i, 2)) (hi : i < nL) (k : XJ Γ kc ks P (pc + 2) (lset L i (vi x)) st) : XJ Γ kc ks P pc L (vi x :: st) := by
  obtain ⟨p, l, e, R, s, m, args, below, meth, c, A', Q⟩ := Γ
  obtain ⟨hx, hb, hml, -⟩ := B
  intro H locs ls hP hS hL
  exact lv_istore hx hb d hL.1 (by rw [hml]; exact hi) rfl (fun ls' h' => k H locs ls' hP hS (hL.set rfl h'))
theorem x_astore_n (B : XB Γ G cc own nL rm A) {i : Fin 4} {a : Nat} (d : decode cc pc = .ok (.astore_n i, 1)) (hi : (i : Nat) < nL) (k : XJ Γ kc ks P (pc + 1) (lset L i (.ref a)) st) : XJ Γ kc ks P pc L (.ref a :: st) := by
  obtain ⟨p, l, e, R, s, m, args, below, meth, c, A', Q⟩ := Γ
  obtain ⟨hx, hb, hml, -⟩ := B
  intro H locs ls hP hS hL
  exact lv_astore_n hx hb d rfl hL.1 (by rw [hml]; exact hi) rfl (fun ls' h' => k H locs ls' hP hS (hL.set rfl h'))
theorem x_astore (B : XB Γ G cc own nL rm A) {i : Nat} {a : Nat} (d : decode cc pc = .ok (.astore i, 2)) (hi : i < nL) (k : XJ Γ kc ks P (pc + 2) (lset L i (.ref a)) st) : XJ Γ kc ks P pc L (.ref a :: st) := by
  obtain ⟨p, l, e, R, s, m, args, below, meth, c, A', Q⟩ := Γ
  obtain ⟨hx, hb, hml, -⟩ := B
  intro H locs ls hP hS hL
  exact lv_astore hx hb d hL.1 (by rw [hml]; exact hi) rfl (fun ls' h' => k H locs ls' hP hS (hL.set rfl h'))
theorem x_fstore_n (B : XB Γ G cc own nL rm A) {i : Fin 4} {x : UInt32} (d : decode cc pc = .ok (.fstore_n i, 1)) (hi : (i : Nat) < nL) (k : XJ Γ kc ks P (pc + 1) (lset L i (.float x)) st) : XJ Γ kc ks P pc L (.float x :: st) := by
  obtain ⟨p, l, e, R, s, m, args, below, meth, c, A', Q⟩ := Γ
  obtain ⟨hx, hb, hml, -⟩ := B
  intro H locs ls hP hS hL
  exact lv_fstore_n hx hb d rfl hL.1 (by rw [hml]; exact hi) rfl (fun ls' h' => k H locs ls' hP hS (hL.set rfl h'))
theorem x_fstore (B : XB Γ G cc own nL rm A) {i : Nat} {x : UInt32} (d : decode cc pc = .ok (.fstore i, 2)) (hi : i < nL) (k : XJ Γ kc ks P (pc + 2) (lset L i (.float x)) st) : XJ Γ kc ks P pc L (.float x :: st) := by
  obtain ⟨p, l, e, R, s, m, args, below, meth, c, A', Q⟩ := Γ
  obtain ⟨hx, hb, hml, -⟩ := B
  intro H locs ls hP hS hL
  exact lv_fstore hx hb d hL.1 (by rw [hml]; exact hi) rfl (fun ls' h' => k H locs ls' hP hS (hL.set rfl h'))
theorem x_iinc (B : XB Γ G cc own nL rm A) {i : Nat} {n x : Int} (d : decode cc pc = .ok (.iinc i n, 3)) (hl : lget L i = some (vi x)) (hi : i < nL) (k : XJ Γ kc ks P (pc + 3) (lset L i (vi (x + n))) st) : XJ Γ kc ks P pc L st := by
  obtain ⟨p, l, e, R, s, m, args, below, meth, c, A', Q⟩ := Γ
  obtain ⟨hx, hb, hml, -⟩ := B
  intro H locs ls hP hS hL
  obtain ⟨j, hj⟩ := List.getElem?_of_mem (lget_mem hl)
  exact lv_iinc (v := Int32.ofInt (x + n)) hx hb d hL.1 hj (by rw [Int32.ofInt_add]) (by rw [hml]; exact hi) rfl (fun ls' h' => k H locs ls' hP hS (hL.set rfl h'))
theorem x_iadd (B : XB Γ G cc own nL rm A) {x y : Int} (d : decode cc pc = .ok (.iadd, 1)) (k : XJ Γ kc ks P (pc + 1) L (vi (x + y) :: st)) : XJ Γ kc ks P pc L (vi y :: vi x :: st) := by
  obtain ⟨p, l, e, R, s, m, args, below, meth, c, A', Q⟩ := Γ
  obtain ⟨hx, hb, hml, -⟩ := B
  intro H locs ls hP hS hL
  refine lv_iadd hx hb d ?_
  rw [← Int32.ofInt_add]
  exact k H locs ls hP hS hL
theorem x_isub (B : XB Γ G cc own nL rm A) {x y : Int} (d : decode cc pc = .ok (.isub, 1)) (k : XJ Γ kc ks P (pc + 1) L (vi (x - y) :: st)) : XJ Γ kc ks P pc L (vi y :: vi x :: st) := by
  obtain ⟨p, l, e, R, s, m, args, below, meth, c, A', Q⟩ := Γ
  obtain ⟨hx, hb, hml, -⟩ := B
  intro H locs ls hP hS hL
  refine lv_isub hx hb d ?_
  rw [← Int32.ofInt_sub]
  exact k H locs ls hP hS hL
theorem x_imul (B : XB Γ G cc own nL rm A) {x y : Int} (d : decode cc pc = .ok (.imul, 1)) (k : XJ Γ kc ks P (pc + 1) L (vi (x * y) :: st)) : XJ Γ kc ks P pc L (vi y :: vi x :: st) := by
  obtain ⟨p, l, e, R, s, m, args, below, meth, c, A', Q⟩ := Γ
  obtain ⟨hx, hb, hml, -⟩ := B
  intro H locs ls hP hS hL
  refine lv_imul hx hb d ?_
  rw [← Int32.ofInt_mul]
  exact k H locs ls hP hS hL
/-- another name of the number on top -/
theorem x_top {x y : Int} (h : x = y) (k : XJ Γ kc ks P pc L (vi y :: st)) : XJ Γ kc ks P pc L (vi x :: st) := by rw [h]; exact k
theorem x_top32 {x : Int32} {y : Int} (h : x = Int32.ofInt y) (k : XJ Γ kc ks P pc L (vi y :: st)) : XJ Γ kc ks P pc L (.int x :: st) := by rw [h]; exact k
theorem x_dup (B : XB Γ G cc own nL rm A) {v : Value} (d : decode cc pc = .ok (.dup, 1)) (hc : v.category = 1) (k : XJ Γ kc ks P (pc + 1) L (v :: v :: st)) : XJ Γ kc ks P pc L (v :: st) := by
  obtain ⟨p, l, e, R, s, m, args, below, meth, c, A', Q⟩ := Γ
  obtain ⟨hx, hb, hml, -⟩ := B
  intro H locs ls hP hS hL
  exact lv_dup hx hb d hc (k H locs ls hP hS hL)
theorem x_goto (B : XB Γ G cc own nL rm A) {off : Int} {tgt : Nat} (d : decode cc pc = .ok (.goto off, 3)) (ht : (pc : Int) + off = (tgt : Int)) (k : XJ Γ kc ks P tgt L st) : XJ Γ kc ks P pc L st := by
  obtain ⟨p, l, e, R, s, m, args, below, meth, c, A', Q⟩ := Γ
  obtain ⟨hx, hb, hml, -⟩ := B
  intro H locs ls hP hS hL
  exact lv_goto hx hb d ht (k H locs ls hP hS hL)
/-- fewer locals listed -/
theorem x_loc {L' : List (Nat × Value)} (h : ∀ q ∈ L', q ∈ L) (k : XJ Γ kc ks P pc L' st) : XJ Γ kc ks P pc L st := by
  obtain ⟨p, l, e, R, s, m, args, below, meth, c, A', Q⟩ := Γ
  intro H locs ls hP hS hL
  exact k H locs ls hP hS (hL.mono h)
/-- another predicate of the heap -/
theorem x_weak {P' : Heap → Prop} (h : ∀ H, P H → P' H) (k : XJ Γ kc ks P' pc L st) : XJ Γ kc ks P pc L st := by
  obtain ⟨p, l, e, R, s, m, args, below, meth, c, A', Q⟩ := Γ
  intro H locs ls hP hS hL
  exact k H locs ls (h H hP) hS hL
/-- a fact that the predicate gives -/
theorem x_fact {φ : Prop} (h : ∀ H, P H → φ) (k : φ → XJ Γ kc ks P pc L st) : XJ Γ kc ks P pc L st := by
  obtain ⟨p, l, e, R, s, m, args, below, meth, c, A', Q⟩ := Γ
  intro H locs ls hP hS hL
  exact k (h H hP) H locs ls hP hS hL
theorem x_ex {ι : Type} {P' : ι → Heap → Prop} (h : ∀ H, P H → ∃ i, P' i H) (k : ∀ i, XJ Γ kc ks (P' i) pc L st) : XJ Γ kc ks P pc L st := by
  obtain ⟨p, l, e, R, s, m, args, below, meth, c, A', Q⟩ := Γ
  intro H locs ls hP hS hL
  obtain ⟨i, hi⟩ := h H hP
  exact k i H locs ls hi hS hL
end XR1
theorem i32_eq {x y : Int} (hx : -2147483648 ≤ x ∧ x < 2147483648) (hy : -2147483648 ≤ y ∧ y < 2147483648) : Int32.ofInt x = Int32.ofInt y ↔ x = y := by
  rw [← Int32.toInt_inj, Int32.toInt_ofInt_of_le (by omega) (by omega), Int32.toInt_ofInt_of_le (by omega) (by omega)]
theorem i32_lt {x y : Int} (hx : -2147483648 ≤ x ∧ x < 2147483648) (hy : -2147483648 ≤ y ∧ y < 2147483648) : Int32.ofInt x < Int32.ofInt y ↔ x < y := by
  rw [Int32.lt_iff_toInt_lt, Int32.toInt_ofInt_of_le (by omega) (by omega), Int32.toInt_ofInt_of_le (by omega) (by omega)]
theorem i32_le {x y : Int} (hx : -2147483648 ≤ x ∧ x < 2147483648) (hy : -2147483648 ≤ y ∧ y < 2147483648) : Int32.ofInt x ≤ Int32.ofInt y ↔ x ≤ y := by
  rw [Int32.le_iff_toInt_le, Int32.toInt_ofInt_of_le (by omega) (by omega), Int32.toInt_ofInt_of_le (by omega) (by omega)]
section XR2
variable {Γ : xE} {G : xG} {cc : ByteArray} {own : String} {nL : Nat} {rm : Room} {A : Nat → Prop} {kc ks pc : Nat} {P : Heap → Prop} {L : List (Nat × Value)} {st : List Value} {off : Int} {tgt : Nat} {x y : Int}
theorem x_icmp_eq (B : XB Γ G cc own nL rm A) (d : decode cc pc = .ok (.if_icmp .eq off, 3)) (ht : (pc : Int) + off = (tgt : Int)) (hx : -2147483648 ≤ x ∧ x < 2147483648) (hy : -2147483648 ≤ y ∧ y < 2147483648) 
    (kt : x = y → XJ Γ kc ks P tgt L st) (kf : ¬ (x = y) → XJ Γ kc ks P (pc + 3) L st) : XJ Γ kc ks P pc L (vi y :: vi x :: st) := by
  obtain ⟨p, l, e, R, s, m, args, below, meth, c, A', Q⟩ := Γ
  obtain ⟨hx0, hb, hml, -⟩ := B
  intro H locs ls hP hS hL
  exact lv_icmp_eq hx0 hb d ht (fun h => kt ((i32_eq hx hy).mp h) H locs ls hP hS hL) (fun h => kf (fun z => h ((i32_eq hx hy).mpr z)) H locs ls hP hS hL)
theorem x_if_eq (B : XB Γ G cc own nL rm A) (d : decode cc pc = .ok (.ifCond .eq off, 3)) (ht : (pc : Int) + off = (tgt : Int)) (hx : -2147483648 ≤ x ∧ x < 2147483648) 
    (kt : x = 0 → XJ Γ kc ks P tgt L st) (kf : ¬ (x = 0) → XJ Γ kc ks P (pc + 3) L st) : XJ Γ kc ks P pc L (vi x :: st) := by
  obtain ⟨p, l, e, R, s, m, args, below, meth, c, A', Q⟩ := Γ
  obtain ⟨hx0, hb, hml, -⟩ := B
  intro H locs ls hP hS hL
  exact lv_if_eq hx0 hb d ht (fun h => kt ((i32_eq (y := 0) hx (by omega)).mp h) H locs ls hP hS hL) (fun h => kf (fun z => h ((i32_eq (y := 0) hx (by omega)).mpr z)) H locs ls hP hS hL)
theorem x_icmp_ne (B : XB Γ G cc own nL rm A) (d : decode cc pc = .ok (.if_icmp .ne off, 3)) (ht : (pc : Int) + off = (tgt : Int)) (hx : -2147483648 ≤ x ∧ x < 2147483648) (hy : -2147483648 ≤ y ∧ y < 2147483648) 
    (kt : x ≠ y → XJ Γ kc ks P tgt L st) (kf : x = y → XJ Γ kc ks P (pc + 3) L st) : XJ Γ kc ks P pc L (vi y :: vi x :: st) := by
  obtain ⟨p, l, e, R, s, m, args, below, meth, c, A', Q⟩ := Γ
  obtain ⟨hx0, hb, hml, -⟩ := B
  intro H locs ls hP hS hL
  exact lv_icmp_ne hx0 hb d ht (fun h => kt (fun z => h ((i32_eq hx hy).mpr z)) H locs ls hP hS hL) (fun h => kf ((i32_eq hx hy).mp h) H locs ls hP hS hL)
theorem x_if_ne (B : XB Γ G cc own nL rm A) (d : decode cc pc = .ok (.ifCond .ne off, 3)) (ht : (pc : Int) + off = (tgt : Int)) (hx : -2147483648 ≤ x ∧ x < 2147483648) 
    (kt : x ≠ 0 → XJ Γ kc ks P tgt L st) (kf : x = 0 → XJ Γ kc ks P (pc + 3) L st) : XJ Γ kc ks P pc L (vi x :: st) := by
  obtain ⟨p, l, e, R, s, m, args, below, meth, c, A', Q⟩ := Γ
  obtain ⟨hx0, hb, hml, -⟩ := B
  intro H locs ls hP hS hL
  exact lv_if_ne hx0 hb d ht (fun h => kt (fun z => h ((i32_eq (y := 0) hx (by omega)).mpr z)) H locs ls hP hS hL) (fun h => kf ((i32_eq (y := 0) hx (by omega)).mp h) H locs ls hP hS hL)
theorem x_icmp_lt (B : XB Γ G cc own nL rm A) (d : decode cc pc = .ok (.if_icmp .lt off, 3)) (ht : (pc : Int) + off = (tgt : Int)) (hx : -2147483648 ≤ x ∧ x < 2147483648) (hy : -2147483648 ≤ y ∧ y < 2147483648) 
    (kt : x < y → XJ Γ kc ks P tgt L st) (kf : y ≤ x → XJ Γ kc ks P (pc + 3) L st) : XJ Γ kc ks P pc L (vi y :: vi x :: st) := by
  obtain ⟨p, l, e, R, s, m, args, below, meth, c, A', Q⟩ := Γ
  obtain ⟨hx0, hb, hml, -⟩ := B
  intro H locs ls hP hS hL
  exact lv_icmp_lt hx0 hb d ht (fun h => kt ((i32_lt hx hy).mp h) H locs ls hP hS hL) (fun h => kf (Int.not_lt.mp (fun z => h ((i32_lt hx hy).mpr z))) H locs ls hP hS hL)
theorem x_if_lt (B : XB Γ G cc own nL rm A) (d : decode cc pc = .ok (.ifCond .lt off, 3)) (ht : (pc : Int) + off = (tgt : Int)) (hx : -2147483648 ≤ x ∧ x < 2147483648) 
    (kt : x < 0 → XJ Γ kc ks P tgt L st) (kf : 0 ≤ x → XJ Γ kc ks P (pc + 3) L st) : XJ Γ kc ks P pc L (vi x :: st) := by
  obtain ⟨p, l, e, R, s, m, args, below, meth, c, A', Q⟩ := Γ
  obtain ⟨hx0, hb, hml, -⟩ := B
  intro H locs ls hP hS hL
  exact lv_if_lt hx0 hb d ht (fun h => kt ((i32_lt (y := 0) hx (by omega)).mp h) H locs ls hP hS hL) (fun h => kf (Int.not_lt.mp (fun z => h ((i32_lt (y := 0) hx (by omega)).mpr z))) H locs ls hP hS hL)
theorem x_icmp_ge (B : XB Γ G cc own nL rm A) (d : decode cc pc = .ok (.if_icmp .ge off, 3)) (ht : (pc : Int) + off = (tgt : Int)) (hx : -2147483648 ≤ x ∧ x < 2147483648) (hy : -2147483648 ≤ y ∧ y < 2147483648) 
    (kt : y ≤ x → XJ Γ kc ks P tgt L st) (kf : x < y → XJ Γ kc ks P (pc + 3) L st) : XJ Γ kc ks P pc L (vi y :: vi x :: st) := by
  obtain ⟨p, l, e, R, s, m, args, below, meth, c, A', Q⟩ := Γ
  obtain ⟨hx0, hb, hml, -⟩ := B
  intro H locs ls hP hS hL
  exact lv_icmp_ge hx0 hb d ht (fun h => kt ((i32_le (x := y) (y := x) hy hx).mp h) H locs ls hP hS hL) (fun h => kf (Int.not_le.mp (fun z => h ((i32_le (x := y) (y := x) hy hx).mpr z))) H locs ls hP hS hL)
theorem x_if_ge (B : XB Γ G cc own nL rm A) (d : decode cc pc = .ok (.ifCond .ge off, 3)) (ht : (pc : Int) + off = (tgt : Int)) (hx : -2147483648 ≤ x ∧ x < 2147483648) 
    (kt : 0 ≤ x → XJ Γ kc ks P tgt L st) (kf : x < 0 → XJ Γ kc ks P (pc + 3) L st) : XJ Γ kc ks P pc L (vi x :: st) := by
  obtain ⟨p, l, e, R, s, m, args, below, meth, c, A', Q⟩ := Γ
  obtain ⟨hx0, hb, hml, -⟩ := B
  intro H locs ls hP hS hL
  exact lv_if_ge hx0 hb d ht (fun h => kt ((i32_le (x := 0) (y := x) (by omega) hx).mp h) H locs ls hP hS hL) (fun h => kf (Int.not_le.mp (fun z => h ((i32_le (x := 0) (y := x) (by omega) hx).mpr z))) H locs ls hP hS hL)
theorem x_icmp_gt (B : XB Γ G cc own nL rm A) (d : decode cc pc = .ok (.if_icmp .gt off, 3)) (ht : (pc : Int) + off = (tgt : Int)) (hx : -2147483648 ≤ x ∧ x < 2147483648) (hy : -2147483648 ≤ y ∧ y < 2147483648) 
    (kt : y < x → XJ Γ kc ks P tgt L st) (kf : x ≤ y → XJ Γ kc ks P (pc + 3) L st) : XJ Γ kc ks P pc L (vi y :: vi x :: st) := by
  obtain ⟨p, l, e, R, s, m, args, below, meth, c, A', Q⟩ := Γ
  obtain ⟨hx0, hb, hml, -⟩ := B
  intro H locs ls hP hS hL
  exact lv_icmp_gt hx0 hb d ht (fun h => kt ((i32_lt (x := y) (y := x) hy hx).mp h) H locs ls hP hS hL) (fun h => kf (Int.not_lt.mp (fun z => h ((i32_lt (x := y) (y := x) hy hx).mpr z))) H locs ls hP hS hL)
theorem x_if_gt (B : XB Γ G cc own nL rm A) (d : decode cc pc = .ok (.ifCond .gt off, 3)) (ht : (pc : Int) + off = (tgt : Int)) (hx : -2147483648 ≤ x ∧ x < 2147483648) 
    (kt : 0 < x → XJ Γ kc ks P tgt L st) (kf : x ≤ 0 → XJ Γ kc ks P (pc + 3) L st) : XJ Γ kc ks P pc L (vi x :: st) := by
  obtain ⟨p, l, e, R, s, m, args, below, meth, c, A', Q⟩ := Γ
  obtain ⟨hx0, hb, hml, -⟩ := B
  intro H locs ls hP hS hL
  exact lv_if_gt hx0 hb d ht (fun h => kt ((i32_lt (x := 0) (y := x) (by omega) hx).mp h) H locs ls hP hS hL) (fun h => kf (Int.not_lt.mp (fun z => h ((i32_lt (x := 0) (y := x) (by omega) hx).mpr z))) H locs ls hP hS hL)
theorem x_icmp_le (B : XB Γ G cc own nL rm A) (d : decode cc pc = .ok (.if_icmp .le off, 3)) (ht : (pc : Int) + off = (tgt : Int)) (hx : -2147483648 ≤ x ∧ x < 2147483648) (hy : -2147483648 ≤ y ∧ y < 2147483648) 
    (kt : x ≤ y → XJ Γ kc ks P tgt L st) (kf : y < x → XJ Γ kc ks P (pc + 3) L st) : XJ Γ kc ks P pc L (vi y :: vi x :: st) := by
  obtain ⟨p, l, e, R, s, m, args, below, meth, c, A', Q⟩ := Γ
  obtain ⟨hx0, hb, hml, -⟩ := B
  intro H locs ls hP hS hL
  exact lv_icmp_le hx0 hb d ht (fun h => kt ((i32_le hx hy).mp h) H locs ls hP hS hL) (fun h => kf (Int.not_le.mp (fun z => h ((i32_le hx hy).mpr z))) H locs ls hP hS hL)
theorem x_if_le (B : XB Γ G cc own nL rm A) (d : decode cc pc = .ok (.ifCond .le off, 3)) (ht : (pc : Int) + off = (tgt : Int)) (hx : -2147483648 ≤ x ∧ x < 2147483648) 
    (kt : x ≤ 0 → XJ Γ kc ks P tgt L st) (kf : 0 < x → XJ Γ kc ks P (pc + 3) L st) : XJ Γ kc ks P pc L (vi x :: st) := by
  obtain ⟨p, l, e, R, s, m, args, below, meth, c, A', Q⟩ := Γ
  obtain ⟨hx0, hb, hml, -⟩ := B
  intro H locs ls hP hS hL
  exact lv_if_le hx0 hb d ht (fun h => kt ((i32_le (y := 0) hx (by omega)).mp h) H locs ls hP hS hL) (fun h => kf (Int.not_le.mp (fun z => h ((i32_le (y := 0) hx (by omega)).mpr z))) H locs ls hP hS hL)
end XR2
-- fields
section XR3
variable {Γ : xE} {G : xG} {cc : ByteArray} {own : String} {nL : Nat} {rm : Room} {A : Nat → Prop} {kc ks pc : Nat} {P : Heap → Prop} {L : List (Nat × Value)} {st : List Value}
theorem x_get (B : XB Γ G cc own nL rm A) {idx ci k a : Nat} {v : Value} (lk : LkG own idx ci k) (d : decode cc pc = .ok (.getfield idx, 3)) (hv : ∀ H, P H → ∃ fs, oat G a ci fs H ∧ fs[k]? = some v)
    (kk : XJ Γ kc ks P (pc + 3) L (v :: st)) : XJ Γ kc ks P pc L (.ref a :: st) := by
  obtain ⟨p, l, e, R, s, m, args, below, meth, c, A', Q⟩ := Γ
  obtain ⟨hx, hb, hml, ho, hts, ⟨hK, hN⟩, hR, hA⟩ := B
  obtain ⟨C, T, N, hc, hk, hin, hl⟩ := lk
  intro H locs ls hP hS hL
  obtain ⟨fs, h1, h2⟩ := hv H hP
  exact va_get (ws := [(a, .inr (ci, fs))]) hx hb hts hin ho hK (wone h1) 0 rfl hc k hk (hts _ hl) (fun _ h => h) h2 d (kk H locs ls hP hS hL)
theorem x_put (B : XB Γ G cc own nL rm A) {idx ci k a : Nat} {v : Value} {ty : FieldType} {P' : Heap → Prop} (lk : LkP own idx ci k ty false) (d : decode cc pc = .ok (.putfield idx, 3)) (hn : narrow ty v = v) (hf : fits ty v = true) (hA : A a)
    (hv : ∀ H, P H → ∃ fs, oat G a ci fs H ∧ k < fs.length ∧ ∀ H1, oat G a ci (fs.set k v) H1 → H1.size = H.size → (∀ q, q ≠ a → H1[q]? = H[q]?) → P' H1)
    (kk : XJ Γ kc ks P' (pc + 3) L st) : XJ Γ kc ks P pc L (v :: .ref a :: st) := by
  obtain ⟨p, l, e, R, s, m, args, below, meth, c, A', Q⟩ := Γ
  obtain ⟨hx, hb, hml, ho, hts, ⟨hK, hN⟩, hR, hAA⟩ := B
  obtain ⟨C, T, N, ty0, hc, hk, hin, hlk, hty, hnm, hfin, hd, hC⟩ := lk
  intro H locs ls hP hS hL
  obtain ⟨fs, h1, hl, h2⟩ := hv H hP
  have hap := va_apart (own := own) hts hin ty0 hty hnm hK hc
  obtain ⟨r, hr1, cell, q1, q2, q3, q4⟩ := h1
  have hr : r = (C, T, N) := Option.some.inj (hr1.symm.trans hc)
  subst hr
  obtain ⟨hSl, hfc, kC, hkC, hkind⟩ := hK.1 ci _ hc
  obtain ⟨cf, kf, fi, f, hi, hsl⟩ := hSl k hk
  have hlay := hts _ (hin _ (u_in_lay hk))
  unfold u_lay at hlay
  rw [if_neg (by rw [hfin]; decide)] at hlay
  have hst := (u_facts hfc hkC (u_lays hts hin hk) hi).1
  have h6 := u_store hfc hkC hkind hlay hi hd hn hf
  subst hAA
  refine W.putK hx hb (f := f) ⟨ho, hts _ hlk, ⟨_, _, _, hi⟩, hst⟩ (by rw [q2]; exact h6) q1 q3 (by rw [hsl]; exact k2_hasslot (q4 k hk)) rfl rfl d fun H' e1 e2 e3 => ?_
  rw [hsl] at e1 ⊢
  exact kk H' _ ls (h2 H' ⟨_, hc, t_OB.to (V := updV (vp_V fs) k v) ⟨_, e1, q2, q3, t_set q4 hap hk v⟩ (fun j _ => vp_updV_set hl v j)⟩ e2 e3) (hS.put e2 e3 hA) hL
theorem x_putF (B : XB Γ G cc own nL rm A) {nm : String} {ret : Option FieldType} {mc ms : Nat} {Qc : Array Value → State → Outcome → State → Prop} (R : XR Γ nm ret mc ms Qc) (hnm0 : nm = "<init>") {idx ci k a : Nat} {v : Value} {ty : FieldType} {P' : Heap → Prop} (lk : LkP own idx ci k ty true) (hown : ∀ C T N, vwCl[ci]? = some (C, T, N) → C = own) (d : decode cc pc = .ok (.putfield idx, 3)) (hn : narrow ty v = v) (hf : fits ty v = true) (hA : A a)
    (hv : ∀ H, P H → ∃ fs, oat G a ci fs H ∧ k < fs.length ∧ ∀ H1, oat G a ci (fs.set k v) H1 → H1.size = H.size → (∀ q, q ≠ a → H1[q]? = H[q]?) → P' H1)
    (kk : XJ Γ kc ks P' (pc + 3) L st) : XJ Γ kc ks P pc L (v :: .ref a :: st) := by
  obtain ⟨p, l, e, R', s, m, args, below, meth, c, A', Q⟩ := Γ
  obtain ⟨hx, hb, hml, ho, hts, ⟨hK, hN⟩, hR, hAA⟩ := B
  obtain ⟨-, -, hmn, -⟩ := R
  obtain ⟨C, T, N, ty0, hc, hk, hin, hlk, hty, hnm, hfin, hd, hC⟩ := lk
  have hCo := hown C T N hc
  intro H locs ls hP hS hL
  obtain ⟨fs, h1, hl, h2⟩ := hv H hP
  have hap := va_apart (own := own) hts hin ty0 hty hnm hK hc
  obtain ⟨r, hr1, cell, q1, q2, q3, q4⟩ := h1
  have hr : r = (C, T, N) := Option.some.inj (hr1.symm.trans hc)
  subst hr
  obtain ⟨hSl, hfc, kC, hkC, hkind⟩ := hK.1 ci _ hc
  obtain ⟨cf, kf, fi, f, hi, hsl⟩ := hSl k hk
  have hlay := hts _ (hin _ (u_in_lay hk))
  unfold u_lay at hlay
  rw [if_pos hfin] at hlay
  have hst := (u_facts hfc hkC (u_lays hts hin hk) hi).1
  have hcf : m.cls = cf := by
    obtain ⟨_, _, c', _, _, _, -, -, hf', -, -, -, hown2, -⟩ := Cond.laysFinal_spec hlay
    have e1 : c' = cf := by have := hi.symm.trans hf'; simp at this; exact this.1.symm
    rw [hC.trans hCo] at hown2
    rw [← e1]; exact Option.some.inj (ho.symm.trans hown2)
  have h6 := u_fits hfc hkC hkind (Or.inr hlay) hi hd hn hf
  subst hAA
  refine W.putFinK hx hb ho (hts _ hlk) hi hst hcf (hmn.trans hnm0) (by rw [q2]; exact h6) q1 q3 (by rw [hsl]; exact k2_hasslot (q4 k hk)) rfl rfl d fun H' e1 e2 e3 => ?_
  rw [hsl] at e1 ⊢
  exact kk H' _ ls (h2 H' ⟨_, hc, t_OB.to (V := updV (vp_V fs) k v) ⟨_, e1, q2, q3, t_set q4 hap hk v⟩ (fun j _ => vp_updV_set hl v j)⟩ e2 e3) (hS.put e2 e3 hA) hL

end XR3
theorem vi_nat {z : Int} {n : Nat} (h : 0 ≤ z ∧ z < n) (hn : n ≤ 2147483647) : (Int32.ofInt z).toNatClampNeg = z.toNat ∧ vp_in (Int32.ofInt z) n := by
  have e : (Int32.ofInt z).toInt = z := Int32.toInt_ofInt_of_le (by omega) (by omega)
  have e1 : (Int32.ofInt z).toNatClampNeg = z.toNat := by show (Int32.ofInt z).toInt.toNat = _; rw [e]
  refine ⟨e1, fun q => ?_⟩
  rcases q with q | q
  · rw [Int32.lt_iff_toInt_lt, e] at q
    have h0 : (0 : Int32).toInt = 0 := rfl
    omega
  · rw [e1] at q
    omega
section XR4
variable {Γ : xE} {G : xG} {cc : ByteArray} {own : String} {nL : Nat} {rm : Room} {A : Nat → Prop} {kc ks pc : Nat} {P : Heap → Prop} {L : List (Nat × Value)} {st : List Value}
theorem x_iald (B : XB Γ G cc own nL rm A) {a n : Nat} {f : Int → Int} {z : Int} (d : decode cc pc = .ok (.iaload, 1)) (hz : 0 ≤ z ∧ z < n) (hn : n ≤ 2147483647) (hv : ∀ H, P H → aat G 0 a n f H)
    (kk : XJ Γ kc ks P (pc + 1) L (vi (f z) :: st)) : XJ Γ kc ks P pc L (vi z :: .ref a :: st) := by
  obtain ⟨p, l, e, R, s, m, args, below, meth, c, A', Q⟩ := Γ
  obtain ⟨hx, hb, hml, ho, hts, ⟨hK, hN⟩, hR, hA⟩ := B
  intro H locs ls hP hS hL
  obtain ⟨e1, e2⟩ := vi_nat hz hn
  refine va_iald (ws := [(a, .inl (G.2 0, n, .inl (fun k => Int32.ofInt (f (k : Int)))))]) (tys := xTys G) hx hb hK (wone (hv H hP)) 0 0 rfl rfl e2 d ?_
  rw [e1, show ((z.toNat : Nat) : Int) = z by omega]
  exact kk H locs ls hP hS hL
theorem x_cald (B : XB Γ G cc own nL rm A) {a n : Nat} {f : Int → Int} {z : Int} (d : decode cc pc = .ok (.caload, 1)) (hz : 0 ≤ z ∧ z < n) (hn : n ≤ 2147483647) (hv : ∀ H, P H → aat G 1 a n f H)
    (kk : XJ Γ kc ks P (pc + 1) L (vi (f z) :: st)) : XJ Γ kc ks P pc L (vi z :: .ref a :: st) := by
  obtain ⟨p, l, e, R, s, m, args, below, meth, c, A', Q⟩ := Γ
  obtain ⟨hx, hb, hml, ho, hts, ⟨hK, hN⟩, hR, hA⟩ := B
  intro H locs ls hP hS hL
  obtain ⟨e1, e2⟩ := vi_nat hz hn
  refine va_cald (ws := [(a, .inl (G.2 1, n, .inl (fun k => Int32.ofInt (f (k : Int)))))]) (tys := xTys G) hx hb hK (wone (hv H hP)) 0 1 rfl rfl e2 d ?_
  rw [e1, show ((z.toNat : Nat) : Int) = z by omega]
  exact kk H locs ls hP hS hL
theorem x_aald (B : XB Γ G cc own nL rm A) {j a n r : Nat} {C : String} {f : Nat → Option Nat} {z : Int} (d : decode cc pc = .ok (.aaload, 1)) (hj : (xTys G)[j]? = some (G.2 j, .object C)) (hz : 0 ≤ z ∧ z < n) (hn : n ≤ 2147483647) (hv : ∀ H, P H → rat G j a n f H ∧ f z.toNat = some r)
    (kk : XJ Γ kc ks P (pc + 1) L (.ref r :: st)) : XJ Γ kc ks P pc L (vi z :: .ref a :: st) := by
  obtain ⟨p, l, e, R, s, m, args, below, meth, c, A', Q⟩ := Γ
  obtain ⟨hx, hb, hml, ho, hts, ⟨hK, hN⟩, hR, hA⟩ := B
  intro H locs ls hP hS hL
  obtain ⟨e1, e2⟩ := vi_nat hz hn
  obtain ⟨h1, h2⟩ := hv H hP
  refine va_aldq (ws := [(a, .inl (G.2 j, n, .inr (.inr (.inr (.inr f)))))]) (tys := xTys G) hx hb hK (wone h1) 0 j rfl hj e2 d ?_
  rw [e1, h2]
  exact kk H locs ls hP hS hL
theorem x_aaldA (B : XB Γ G cc own nL rm A) {j a n r : Nat} {t : FieldType} {f : Nat → Option Nat} {z : Int} (d : decode cc pc = .ok (.aaload, 1)) (hj : (xTys G)[j]? = some (G.2 j, .array t)) (hz : 0 ≤ z ∧ z < n) (hn : n ≤ 2147483647) (hv : ∀ H, P H → rat G j a n f H ∧ f z.toNat = some r)
    (kk : XJ Γ kc ks P (pc + 1) L (.ref r :: st)) : XJ Γ kc ks P pc L (vi z :: .ref a :: st) := by
  obtain ⟨p, l, e, R, s, m, args, below, meth, c, A', Q⟩ := Γ
  obtain ⟨hx, hb, hml, ho, hts, ⟨hK, hN⟩, hR, hA⟩ := B
  intro H locs ls hP hS hL
  obtain ⟨e1, e2⟩ := vi_nat hz hn
  obtain ⟨h1, h2⟩ := hv H hP
  have hlt : (Int32.ofInt z).toNatClampNeg < n := Nat.not_le.mp fun q => e2 (Or.inr q)
  refine W.aald (v := va_rf (f (Int32.ofInt z).toNatClampNeg)) (ty := .array t) hx hb h1 ((hK.2 j _ hj).1 n (fun j => va_rf (f j))) rfl (fun q => by cases q) (by show ¬ (Int32.ofInt z < 0 ∨ (arrV _ _ _).slots.size ≤ _); rw [arrV_size]; exact e2) (by show (arrV _ _ _).slots[_]? = _; rw [arrV_read _ _ hlt]) rfl rfl d ?_
  rw [e1, h2]
  exact kk H locs ls hP hS hL
/-- a store into an int array -/
theorem x_iast (B : XB Γ G cc own nL rm A) {a n : Nat} {f : Int → Int} {z v : Int} {P' : Heap → Prop} (d : decode cc pc = .ok (.iastore, 1)) (hz : 0 ≤ z ∧ z < n) (hn : n ≤ 2147483647) (hA : A a)
    (hv : ∀ H, P H → aat G 0 a n f H ∧ ∀ H1, aat G 0 a n (up f z v) H1 → H1.size = H.size → (∀ q, q ≠ a → H1[q]? = H[q]?) → P' H1)
    (kk : XJ Γ kc ks P' (pc + 1) L st) : XJ Γ kc ks P pc L (vi v :: vi z :: .ref a :: st) := by
  obtain ⟨p, l, e, R, s, m, args, below, meth, c, A', Q⟩ := Γ
  obtain ⟨hx, hb, hml, ho, hts, ⟨hK, hN⟩, hR, hAA⟩ := B
  intro H locs ls hP hS hL
  obtain ⟨e1, e2⟩ := vi_nat hz hn
  obtain ⟨h1, h2⟩ := hv H hP
  subst hAA
  refine W.iast hx hb h1 ((hK.2 0 (G.2 0, .int) rfl).1 n (fun j => .int (Int32.ofInt (f (j : Int))))) (fun q => by cases q) (by show ¬ (Int32.ofInt z < 0 ∨ (arrV _ _ _).slots.size ≤ _); rw [arrV_size]; exact e2) rfl rfl d fun H1 e z1 oq => ?_
  refine kk H1 _ ls (h2 H1 ?_ z1 oq) (hS.put z1 oq hA) hL
  show H1[a]? = some (vp_cell _ _)
  rw [e, vp_cell_i, vp_cell_i, arrV_store]
  congr 2
  funext q
  rw [e1]
  by_cases hq : q = z.toNat
  · subst hq
    rw [up_eq (by omega)]
    simp [updV]
  · rw [up_ne (by omega)]
    simp [updV, hq]
theorem x_cast (B : XB Γ G cc own nL rm A) {a n : Nat} {f : Int → Int} {z v : Int} {P' : Heap → Prop} (d : decode cc pc = .ok (.castore, 1)) (hz : 0 ≤ z ∧ z < n) (hn : n ≤ 2147483647) (hA : A a) (hc : narrow .char (vi v) = vi v)
    (hv : ∀ H, P H → aat G 1 a n f H ∧ ∀ H1, aat G 1 a n (up f z v) H1 → H1.size = H.size → (∀ q, q ≠ a → H1[q]? = H[q]?) → P' H1)
    (kk : XJ Γ kc ks P' (pc + 1) L st) : XJ Γ kc ks P pc L (vi v :: vi z :: .ref a :: st) := by
  obtain ⟨p, l, e, R, s, m, args, below, meth, c, A', Q⟩ := Γ
  obtain ⟨hx, hb, hml, ho, hts, ⟨hK, hN⟩, hR, hAA⟩ := B
  intro H locs ls hP hS hL
  obtain ⟨e1, e2⟩ := vi_nat hz hn
  obtain ⟨h1, h2⟩ := hv H hP
  subst hAA
  refine W.cast hx hb h1 ((hK.2 1 (G.2 1, .char) rfl).1 n (fun j => .int (Int32.ofInt (f (j : Int))))) (fun q => by cases q) (by show ¬ (Int32.ofInt z < 0 ∨ (arrV _ _ _).slots.size ≤ _); rw [arrV_size]; exact e2) rfl rfl d fun H1 e z1 oq => ?_
  refine kk H1 _ ls (h2 H1 ?_ z1 oq) (hS.put z1 oq hA) hL
  show H1[a]? = some (vp_cell _ _)
  rw [e, show narrow .char (.int (Int32.ofInt v)) = Value.int (Int32.ofInt v) from hc, vp_cell_i, vp_cell_i, arrV_store]
  congr 2
  funext q
  rw [e1]
  by_cases hq : q = z.toNat
  · subst hq
    rw [up_eq (by omega)]
    simp [updV]
  · rw [up_ne (by omega)]
    simp [updV, hq]
/-- a store into an array of references -/
theorem x_aast (B : XB Γ G cc own nL rm A) {j ci a n v : Nat} {f : Nat → Option Nat} {z : Int} {r : vw_C} {P' : Heap → Prop} (d : decode cc pc = .ok (.aastore, 1)) (hj : (xTys G)[j]? = some (G.2 j, .object r.1)) (hc : vwCl[ci]? = some r) (hz : 0 ≤ z ∧ z < n) (hn : n ≤ 2147483647) (hA : A a)
    (hv : ∀ H, P H → rat G j a n f H ∧ (∃ fs, oat G v ci fs H) ∧ ∀ H1, rat G j a n (va_up f z.toNat (some v)) H1 → H1.size = H.size → (∀ q, q ≠ a → H1[q]? = H[q]?) → P' H1)
    (kk : XJ Γ kc ks P' (pc + 1) L st) : XJ Γ kc ks P pc L (.ref v :: vi z :: .ref a :: st) := by
  obtain ⟨p, l, e, R, s, m, args, below, meth, c, A', Q⟩ := Γ
  obtain ⟨hx, hb, hml, ho, hts, ⟨hK, hN⟩, hR, hAA⟩ := B
  intro H locs ls hP hS hL
  obtain ⟨e1, hin⟩ := vi_nat hz hn
  obtain ⟨ha, ⟨fs, hvv⟩, h2⟩ := hv H hP
  subst hAA
  have hlt : (Int32.ofInt z).toNatClampNeg < n := Nat.not_le.mp fun q => hin (Or.inr q)
  have h0 : ¬ Int32.ofInt z < 0 := fun q => hin (Or.inl q)
  obtain ⟨r', hr', cellV, g1, g2, g3, -⟩ := hvv
  have hcls := (hK.1 ci r hc).2
  obtain ⟨kA, comp, k1, k2, k3, -⟩ := (hK.2 j _ hj).2
  have hcomp : comp = G.1.1 ci := Option.some.inj (k3.symm.trans hcls.1)
  subst hcomp
  obtain ⟨kC, hkC, -⟩ := hcls.2
  refine W.aast hx hb ha (fun q h => by cases h) (fun h => by cases h) k1 k2 rfl hkC ⟨h0, by show _ < (arrV _ _ _).slots.size; rw [arrV_size]; exact hlt⟩ g1 (fun q h => by rw [g3] at h; cases h) (by rw [g2]; exact hkC) (by rw [g2]; exact va_assign hcls) rfl rfl d fun H1 e z1 oq => ?_
  refine kk H1 _ ls (h2 H1 ?_ z1 oq) (hS.put z1 oq hA) hL
  show H1[a]? = some (vp_cell _ _)
  rw [e, vp_cell_q, vp_cell_q, arrV_store]
  congr 2
  funext q
  rw [e1]
  by_cases hq : q = z.toNat
  · subst hq
    simp [updV, va_up, va_rf]
  · simp [updV, va_up, hq]
/-- the array's length -/
theorem x_alen (B : XB Γ G cc own nL rm A) {j a n : Nat} {ty : FieldType} {f : Int → Int} {v : Int} (d : decode cc pc = .ok (.arraylength, 1)) (hj : (xTys G)[j]? = some (G.2 j, ty)) (hn : (n : Int) = v) (hv : ∀ H, P H → aat G j a n f H)
    (kk : XJ Γ kc ks P (pc + 1) L (vi v :: st)) : XJ Γ kc ks P pc L (.ref a :: st) := by
  obtain ⟨p, l, e, R, s, m, args, below, meth, c, A', Q⟩ := Γ
  obtain ⟨hx, hb, hml, ho, hts, ⟨hK, hN⟩, hR, hA⟩ := B
  intro H locs ls hP hS hL
  refine va_alen (ws := [(a, .inl (G.2 j, n, .inl (fun k => Int32.ofInt (f (k : Int)))))]) (tys := xTys G) (v := Int32.ofInt v) hx hb hK (wone (hv H hP)) 0 j rfl hj ?_ d (kk H locs ls hP hS hL)
  rw [← hn, Int32.ofInt_eq_ofNat]
-- ends
theorem x_iret (B : XB Γ G cc own nL rm A) {nm : String} {post : Option Value → Heap → Prop} (R : XR Γ nm (some .int) kc ks (xQ post A)) {z : Int} (d : decode cc pc = .ok (.ireturn, 1)) (hq : ∀ H, P H → post (some (vi z)) H) : XJ Γ kc ks P pc L [vi z] := by
  obtain ⟨p, l, e, R', s, m, args, below, meth, c, A', Q⟩ := Γ
  obtain ⟨hx, hb, hml, ho, hts, ⟨hK, hN⟩, hR, hAA⟩ := B
  obtain ⟨hr, hlk, hnm, hQ⟩ := R
  subst hAA
  subst hQ
  intro H locs ls hP hS hL
  exact W.iret hx hb hr (fun t ht _ => ⟨_, rfl, by rw [ht]; exact hq H hP, hS.F ht⟩) hS.2.2 d hlk
theorem x_zret (B : XB Γ G cc own nL rm A) {nm : String} {post : Option Value → Heap → Prop} (R : XR Γ nm (some .boolean) kc ks (xQ post A)) {z : Int} (d : decode cc pc = .ok (.ireturn, 1)) (hn : narrow .boolean (vi z) = vi z) (hq : ∀ H, P H → post (some (vi z)) H) : XJ Γ kc ks P pc L [vi z] := by
  obtain ⟨p, l, e, R', s, m, args, below, meth, c, A', Q⟩ := Γ
  obtain ⟨hx, hb, hml, ho, hts, ⟨hK, hN⟩, hR, hAA⟩ := B
  obtain ⟨hr, hlk, hnm, hQ⟩ := R
  subst hAA
  subst hQ
  intro H locs ls hP hS hL
  exact W.zret hx hb hr hn (fun t ht _ => ⟨_, rfl, by rw [ht]; exact hq H hP, hS.F ht⟩) hS.2.2 d hlk
theorem x_vret (B : XB Γ G cc own nL rm A) {nm : String} {post : Option Value → Heap → Prop} (R : XR Γ nm none kc ks (xQ post A)) (d : decode cc pc = .ok (.return_, 1)) (hq : ∀ H, P H → post none H) : XJ Γ kc ks P pc L [] := by
  obtain ⟨p, l, e, R', s, m, args, below, meth, c, A', Q⟩ := Γ
  obtain ⟨hx, hb, hml, ho, hts, ⟨hK, hN⟩, hR, hAA⟩ := B
  obtain ⟨hr, hlk, hnm, hQ⟩ := R
  subst hAA
  subst hQ
  intro H locs ls hP hS hL
  exact W.vret hx hb hr (fun t ht _ => ⟨_, rfl, by rw [ht]; exact hq H hP, hS.F ht⟩) hS.2.2 d hlk
/-- more room than was used -/
theorem x_widen {k n : Nat} (h1 : kc ≤ k) (h2 : ks ≤ n) (kk : XJ Γ k n P pc L st) : XJ Γ kc ks P pc L st := by
  obtain ⟨p, l, e, R', s, m, args, below, meth, c, A', Q⟩ := Γ
  intro H locs ls hP hS hL
  exact W.widen h1 h2 (kk H locs ls hP hS hL)
end XR4

-- calls
theorem x_blind {G : xG} {av : List Value} {P : Heap → Prop} : FrameBlind (va_Pc av (fun U => P U.heap ∧ xK G U)) := fun _ _ _ _ h => ⟨h.1, h.2.1, h.2.2.same rfl⟩
section XR5
variable {p : Program} {l : Launch} {e : Env} {R : Room} {s : State} {m : MethodId} {args : Array Value} {below : List Frame} {meth : Method} {c : Code} {A A0 : Nat → Prop} {Q : State → Prop} {H : Heap} {locs : List Loc} {ls : Array Slot} {kc ks mc ms pc : Nat} {L : List (Nat × Value)} {st st0 : List Value} {post : Option Value → Heap → Prop} {a : Array Value}
theorem xj_after (hr : va_Run p l e R s m args below meth c H locs kc ks mc ms (F0 m pc ls st0) st (xQ post A0 a) A0) (hS : va_S A s.heap H locs) (hAA : ∀ q, A0 q → A q)
    (kk : ∀ (v : Option Value) (H1 : Heap) (locs1 : List Loc), post v H1 → H.size ≤ H1.size → (∀ q : Nat, q < H.size → ¬ A0 q → H1[q]? = H[q]?) → va_S A s.heap H1 locs1 → W p l e R s m args below meth c H1 locs1 (kc + mc) (ks + ms) Q (F0 m (pc + 3) ls (v.toList ++ st))) : W p l e R s m args below meth c H locs kc ks Q (F0 m pc ls st0) := by
  intro T hT X
  obtain ⟨v, st₀, t, T', L, h0, X', hL, e1, e2, ⟨v', hv, hp, hz, hk⟩, st⟩ := hr T hT X
  cases hv
  rw [h0] at hz hk
  obtain ⟨t2, a1, b1⟩ := kk v T'.heap (locs ++ L) (by rw [e1]; exact hp) (by rw [e1]; exact hz) (fun q h1 h2 => by rw [e1]; exact hk q h1 h2)
    ⟨Nat.le_trans hS.1 (by rw [e1]; exact hz), fun q h1 h2 => by rw [e1, hk q (Nat.lt_of_lt_of_le h1 hS.1) (fun z => h2 (hAA q z))]; exact hS.2.1 q h1 h2, fun q hq => by
      rcases List.mem_append.mp hq with h | h
      · exact hS.2.2 q h
      · exact hAA _ (hL q h)⟩ T' rfl X'
  exact ⟨t2, st t2 a1, b1⟩
end XR5
section XR6
variable {Γ : xE} {G : xG} {cc : ByteArray} {own : String} {nL : Nat} {rm : Room} {A : Nat → Prop} {kc ks pc : Nat} {P : Heap → Prop} {L : List (Nat × Value)} {st st0 : List Value}
variable {idx : Nat} {y : MethodName} {bytes : ByteArray} {nL' : Nat} {ret : Option FieldType} {ci n : Nat} {rm' : Room} {mc ms b : Nat} {As : List Value} {P0 : Heap → Prop} {post : Option Value → Heap → Prop} {A0 : Nat → Prop}
theorem x_callVg (B : XB Γ G cc own nL rm A) (lk : LkV own idx y bytes nL' ret ci n) (hM : ∀ l, CT G l y bytes nL' ret rm' mc ms (.ref b :: As) P0 post A0)
    (d : decode cc pc = .ok (.invokevirtual idx, 3)) (hst : st0 = As.reverse ++ .ref b :: st) (hn : As.length = n) (hR : rm'.cells = mc ∧ rm'.slots = ms ∧ rm'.frames + 1 ≤ rm.frames ∧ 8 + (nL' + 11) + rm'.locals ≤ rm.locals)
    (hf : kc + mc ≤ rm.cells ∧ ks + ms ≤ rm.slots) (hw : (st.map fun v => v.category).sum ≤ 8) (hAA : ∀ q, A0 q → A q) (hP : ∀ H, P H → P0 H ∧ ∃ fs, oat G b ci fs H) {ι : Type} {v : ι → Option Value} {P' : ι → Heap → Prop}
    (hb : ∀ v' H H1, P H → post v' H1 → H.size ≤ H1.size → (∀ q : Nat, q < H.size → ¬ A0 q → H1[q]? = H[q]?) → ∃ i, v' = v i ∧ P' i H1)
    (kk : ∀ i, XJ Γ (kc + mc) (ks + ms) (P' i) (pc + 3) L ((v i).toList ++ st)) : XJ Γ kc ks P pc L st0 := by
  obtain ⟨p, l, e, R, s, m, args, below, meth, c, A', Q⟩ := Γ
  obtain ⟨hx, hb0, hml, ho, hts, hK, hRR, hA⟩ := B
  obtain ⟨w1, w2, w3, w4, w5, w6, T, N, hc⟩ := lk
  subst hA
  subst hRR
  subst hst
  intro H locs ls hPH hS hL
  obtain ⟨h0, fs, ho1⟩ := hP H hPH
  have hG : GoodIn xw (Cond.code y bytes nL' ret :: xw) := xw_self (fun w h => by
    rcases List.mem_cons.mp h with h | h
    · rw [h]; exact w5
    · exact h)
  refine xj_after (va_runV (As := As) (rest := st) ⟨hx, hb0, hml, ho, hts⟩ (hM l) ⟨callB_of n hts hG rfl hR.1 hR.2.1 (hts _ w4) (hts _ w1) w6 hR.2.2, hts _ w2, hts _ w3⟩ ⟨x_blind, va_recv hK.1 (wone ho1) (ci := ci) (q0 := 0) hc rfl, fun U hU hW => ⟨rfl, by rw [hU]; exact h0, hK.warm hW⟩⟩ rfl hn (hL.1.1.trans hml) rfl (lv_room hw) d hf) hS hAA (fun v' H1 locs1 h1 h2 h3 h4 => ?_)
  obtain ⟨i, e1, e2⟩ := hb v' H H1 hPH h1 h2 h3
  rw [e1]
  exact kk i H1 locs1 ls e2 h4 hL
theorem x_callSg (B : XB Γ G cc own nL rm A) (lk : LkS own idx y bytes nL' ret n) (hM : ∀ l, CT G l y bytes nL' ret rm' mc ms As P0 post A0)
    (d : decode cc pc = .ok (.invokestatic idx, 3)) (hst : st0 = As.reverse ++ st) (hn : As.length = n) (hR : rm'.cells = mc ∧ rm'.slots = ms ∧ rm'.frames + 1 ≤ rm.frames ∧ 8 + (nL' + 11) + rm'.locals ≤ rm.locals)
    (hf : kc + mc ≤ rm.cells ∧ ks + ms ≤ rm.slots) (hw : (st.map fun v => v.category).sum ≤ 8) (hAA : ∀ q, A0 q → A q) (hP : ∀ H, P H → P0 H) {ι : Type} {v : ι → Option Value} {P' : ι → Heap → Prop}
    (hb : ∀ v' H H1, P H → post v' H1 → H.size ≤ H1.size → (∀ q : Nat, q < H.size → ¬ A0 q → H1[q]? = H[q]?) → ∃ i, v' = v i ∧ P' i H1)
    (kk : ∀ i, XJ Γ (kc + mc) (ks + ms) (P' i) (pc + 3) L ((v i).toList ++ st)) : XJ Γ kc ks P pc L st0 := by
  obtain ⟨p, l, e, R, s, m, args, below, meth, c, A', Q⟩ := Γ
  obtain ⟨hx, hb0, hml, ho, hts, hK, hRR, hA⟩ := B
  obtain ⟨w1, w2, w4, w5, w6⟩ := lk
  subst hA
  subst hRR
  subst hst
  intro H locs ls hPH hS hL
  have hG : GoodIn xw (Cond.code y bytes nL' ret :: xw) := xw_self (fun w h => by
    rcases List.mem_cons.mp h with h | h
    · rw [h]; exact w5
    · exact h)
  refine xj_after (va_runS (As := As) (rest := st) ⟨hx, hb0, hml, ho, hts⟩ (hM l) ⟨callB_of n hts hG rfl hR.1 hR.2.1 (hts _ w4) (hts _ w1) w6 hR.2.2, hts _ w2⟩ ⟨x_blind, fun U hU hW => ⟨rfl, by rw [hU]; exact hP H hPH, hK.warm hW⟩⟩ rfl hn (hL.1.1.trans hml) rfl (lv_room hw) d hf) hS hAA (fun v' H1 locs1 h1 h2 h3 h4 => ?_)
  obtain ⟨i, e1, e2⟩ := hb v' H H1 hPH h1 h2 h3
  rw [e1]
  exact kk i H1 locs1 ls e2 h4 hL
theorem x_callSNg (B : XB Γ G cc own nL rm A) {host : String} (lk : LkSN y bytes nL' ret n) (hnest : ∀ s, xN s → va_Nw (.methodLinkNest own idx y host) s) (hM : ∀ l, CT G l y bytes nL' ret rm' mc ms As P0 post A0)
    (d : decode cc pc = .ok (.invokestatic idx, 3)) (hst : st0 = As.reverse ++ st) (hn : As.length = n) (hR : rm'.cells = mc ∧ rm'.slots = ms ∧ rm'.frames + 1 ≤ rm.frames ∧ 8 + (nL' + 11) + rm'.locals ≤ rm.locals)
    (hf : kc + mc ≤ rm.cells ∧ ks + ms ≤ rm.slots) (hw : (st.map fun v => v.category).sum ≤ 8) (hAA : ∀ q, A0 q → A q) (hP : ∀ H, P H → P0 H) {ι : Type} {v : ι → Option Value} {P' : ι → Heap → Prop}
    (hb : ∀ v' H H1, P H → post v' H1 → H.size ≤ H1.size → (∀ q : Nat, q < H.size → ¬ A0 q → H1[q]? = H[q]?) → ∃ i, v' = v i ∧ P' i H1)
    (kk : ∀ i, XJ Γ (kc + mc) (ks + ms) (P' i) (pc + 3) L ((v i).toList ++ st)) : XJ Γ kc ks P pc L st0 := by
  obtain ⟨p, l, e, R, s, m, args, below, meth, c, A', Q⟩ := Γ
  obtain ⟨hx, hb0, hml, ho, hts, hK, hRR, hA⟩ := B
  obtain ⟨w2, w4, w5, w6⟩ := lk
  subst hA
  subst hRR
  subst hst
  intro H locs ls hPH hS hL
  have hG : GoodIn xw (Cond.code y bytes nL' ret :: xw) := xw_self (fun w h => by
    rcases List.mem_cons.mp h with h | h
    · rw [h]; exact w5
    · exact h)
  refine xj_after (va_runSN (As := As) (rest := st) ⟨hx, hb0, hml, ho, hts⟩ (hM l) ⟨va_cnB n hts hG rfl hR.1 hR.2.1 (hnest s hK.2) (hts _ w4) w6 hR.2.2, hts _ w2, trivial⟩ ⟨x_blind, fun U hU hW => ⟨rfl, by rw [hU]; exact hP H hPH, hK.warm hW⟩⟩ rfl hn (hL.1.1.trans hml) rfl (lv_room hw) d hf) hS hAA (fun v' H1 locs1 h1 h2 h3 h4 => ?_)
  obtain ⟨i, e1, e2⟩ := hb v' H H1 hPH h1 h2 h3
  rw [e1]
  exact kk i H1 locs1 ls e2 h4 hL
theorem x_callIg (B : XB Γ G cc own nL rm A) (lk : LkI y bytes nL' n) (hlink : Cond.methodLink own idx y ∈ xw) (hM : ∀ l, CT G l y bytes nL' none rm' mc ms (.ref b :: As) P0 post A0)
    (d : decode cc pc = .ok (.invokespecial idx, 3)) (hst : st0 = As.reverse ++ .ref b :: st) (hn : As.length = n) (hR : rm'.cells = mc ∧ rm'.slots = ms ∧ rm'.frames + 1 ≤ rm.frames ∧ 8 + (nL' + 11) + rm'.locals ≤ rm.locals)
    (hf : kc + mc ≤ rm.cells ∧ ks + ms ≤ rm.slots) (hw : (st.map fun v => v.category).sum ≤ 8) (hAA : ∀ q, A0 q → A q) (hP : ∀ H, P H → P0 H) {P' : Heap → Prop}
    (hb : ∀ v' H H1, P H → post v' H1 → H.size ≤ H1.size → (∀ q : Nat, q < H.size → ¬ A0 q → H1[q]? = H[q]?) → v' = none ∧ P' H1)
    (kk : XJ Γ (kc + mc) (ks + ms) P' (pc + 3) L st) : XJ Γ kc ks P pc L st0 := by
  obtain ⟨p, l, e, R, s, m, args, below, meth, c, A', Q⟩ := Γ
  obtain ⟨hx, hb0, hml, ho, hts, hK, hRR, hA⟩ := B
  obtain ⟨w2, w4, w5, w6, w7⟩ := lk
  subst hA
  subst hRR
  subst hst
  intro H locs ls hPH hS hL
  have hG : GoodIn xw (Cond.code y bytes nL' none :: xw) := xw_self (fun w h => by
    rcases List.mem_cons.mp h with h | h
    · rw [h]; exact w5
    · exact h)
  refine xj_after (va_runI (As := As) (rest := st) ⟨hx, hb0, hml, ho, hts⟩ (hM l) ⟨callB_of n hts hG rfl hR.1 hR.2.1 (hts _ w4) (hts _ hlink) w6 hR.2.2, w7, hts _ w2⟩ ⟨x_blind, fun U hU hW => ⟨rfl, by rw [hU]; exact hP H hPH, hK.warm hW⟩⟩ rfl hn (hL.1.1.trans hml) rfl (lv_room hw) d hf) hS hAA (fun v' H1 locs1 h1 h2 h3 h4 => ?_)
  obtain ⟨e1, e2⟩ := hb v' H H1 hPH h1 h2 h3
  rw [e1]
  exact kk H1 locs1 ls e2 h4 hL
theorem x_callINg (B : XB Γ G cc own nL rm A) {host : String} (lk : LkI y bytes nL' n) (hnest : ∀ s, xN s → va_Nw (.methodLinkNest own idx y host) s) (hM : ∀ l, CT G l y bytes nL' none rm' mc ms (.ref b :: As) P0 post A0)
    (d : decode cc pc = .ok (.invokespecial idx, 3)) (hst : st0 = As.reverse ++ .ref b :: st) (hn : As.length = n) (hR : rm'.cells = mc ∧ rm'.slots = ms ∧ rm'.frames + 1 ≤ rm.frames ∧ 8 + (nL' + 11) + rm'.locals ≤ rm.locals)
    (hf : kc + mc ≤ rm.cells ∧ ks + ms ≤ rm.slots) (hw : (st.map fun v => v.category).sum ≤ 8) (hAA : ∀ q, A0 q → A q) (hP : ∀ H, P H → P0 H) {P' : Heap → Prop}
    (hb : ∀ v' H H1, P H → post v' H1 → H.size ≤ H1.size → (∀ q : Nat, q < H.size → ¬ A0 q → H1[q]? = H[q]?) → v' = none ∧ P' H1)
    (kk : XJ Γ (kc + mc) (ks + ms) P' (pc + 3) L st) : XJ Γ kc ks P pc L st0 := by
  obtain ⟨p, l, e, R, s, m, args, below, meth, c, A', Q⟩ := Γ
  obtain ⟨hx, hb0, hml, ho, hts, hK, hRR, hA⟩ := B
  obtain ⟨w2, w4, w5, w6, w7⟩ := lk
  subst hA
  subst hRR
  subst hst
  intro H locs ls hPH hS hL
  have hG : GoodIn xw (Cond.code y bytes nL' none :: xw) := xw_self (fun w h => by
    rcases List.mem_cons.mp h with h | h
    · rw [h]; exact w5
    · exact h)
  refine xj_after (va_runIN (As := As) (rest := st) ⟨hx, hb0, hml, ho, hts⟩ (hM l) ⟨va_cnB n hts hG rfl hR.1 hR.2.1 (hnest s hK.2) (hts _ w4) w6 hR.2.2, w7, hts _ w2⟩ ⟨x_blind, fun U hU hW => ⟨rfl, by rw [hU]; exact hP H hPH, hK.warm hW⟩⟩ rfl hn (hL.1.1.trans hml) rfl (lv_room hw) d hf) hS hAA (fun v' H1 locs1 h1 h2 h3 h4 => ?_)
  obtain ⟨e1, e2⟩ := hb v' H H1 hPH h1 h2 h3
  rw [e1]
  exact kk H1 locs1 ls e2 h4 hL
/-- a call of a method of the same predicates: its P is ours, its end's P' is ours then; r: what it returns -/
theorem x_callV (B : XB Γ G cc own nL rm A) {P' : Heap → Prop} {r : Int} (lk : LkV own idx y bytes nL' ret ci n) (hM : ∀ l, CT G l y bytes nL' ret rm' 0 0 (.ref b :: As) P (fun v H => v = some (vi r) ∧ P' H) A)
    (d : decode cc pc = .ok (.invokevirtual idx, 3)) (hst : st0 = As.reverse ++ .ref b :: st) (hn : As.length = n) (hR : rm'.cells = 0 ∧ rm'.slots = 0 ∧ rm'.frames + 1 ≤ rm.frames ∧ 8 + (nL' + 11) + rm'.locals ≤ rm.locals)
    (hf : kc ≤ rm.cells ∧ ks ≤ rm.slots) (hw : (st.map fun v => v.category).sum ≤ 8) (hP : ∀ H, P H → ∃ fs, oat G b ci fs H)
    (kk : XJ Γ kc ks P' (pc + 3) L (vi r :: st)) : XJ Γ kc ks P pc L st0 :=
  x_callVg B lk hM d hst hn hR hf hw (fun _ h => h) (fun H h => ⟨h, hP H h⟩) (ι := Unit) (v := fun _ => some (vi r)) (P' := fun _ => P') (fun v' H H1 _ h _ _ => ⟨(), h.1, h.2⟩) (fun _ => kk)
theorem x_callVv (B : XB Γ G cc own nL rm A) {P' : Heap → Prop} (lk : LkV own idx y bytes nL' ret ci n) (hM : ∀ l, CT G l y bytes nL' ret rm' 0 0 (.ref b :: As) P (fun v H => v = none ∧ P' H) A)
    (d : decode cc pc = .ok (.invokevirtual idx, 3)) (hst : st0 = As.reverse ++ .ref b :: st) (hn : As.length = n) (hR : rm'.cells = 0 ∧ rm'.slots = 0 ∧ rm'.frames + 1 ≤ rm.frames ∧ 8 + (nL' + 11) + rm'.locals ≤ rm.locals)
    (hf : kc ≤ rm.cells ∧ ks ≤ rm.slots) (hw : (st.map fun v => v.category).sum ≤ 8) (hP : ∀ H, P H → ∃ fs, oat G b ci fs H)
    (kk : XJ Γ kc ks P' (pc + 3) L st) : XJ Γ kc ks P pc L st0 :=
  x_callVg B lk hM d hst hn hR hf hw (fun _ h => h) (fun H h => ⟨h, hP H h⟩) (ι := Unit) (v := fun _ => none) (P' := fun _ => P') (fun v' H H1 _ h _ _ => ⟨(), h.1, h.2⟩) (fun _ => kk)
/-- a call of a static method that looks at no heap -/
theorem x_callS (B : XB Γ G cc own nL rm A) {r : Int} (lk : LkS own idx y bytes nL' ret n) (hM : ∀ l, CT G l y bytes nL' ret rm' 0 0 As (fun _ => True) (fun v _ => v = some (vi r)) (fun _ => False))
    (d : decode cc pc = .ok (.invokestatic idx, 3)) (hst : st0 = As.reverse ++ st) (hn : As.length = n) (hR : rm'.cells = 0 ∧ rm'.slots = 0 ∧ rm'.frames + 1 ≤ rm.frames ∧ 8 + (nL' + 11) + rm'.locals ≤ rm.locals)
    (hf : kc ≤ rm.cells ∧ ks ≤ rm.slots) (hw : (st.map fun v => v.category).sum ≤ 8) (hP : ∀ H H1, P H → H.size ≤ H1.size → (∀ q : Nat, q < H.size → H1[q]? = H[q]?) → P H1)
    (kk : XJ Γ kc ks P (pc + 3) L (vi r :: st)) : XJ Γ kc ks P pc L st0 :=
  x_callSg B lk hM d hst hn hR hf hw (fun _ h => h.elim) (fun _ _ => trivial) (ι := Unit) (v := fun _ => some (vi r)) (P' := fun _ => P) (fun v' H H1 hp h hz hk => ⟨(), h, hP H H1 hp hz (fun q hq => hk q hq (fun h => h))⟩) (fun _ => kk)
end XR6
end
section
/-! ===== rows as the walks use them: numbers come with their range, booleans as propositions ===== -/
def bz (c : Prop) [Decidable c] : Int := if c then 1 else 0
theorem bz_t {c : Prop} [Decidable c] (h : c) : bz c = 1 := if_pos h
theorem bz_f {c : Prop} [Decidable c] (h : ¬ c) : bz c = 0 := if_neg h
theorem bz_ne {c : Prop} [Decidable c] : bz c ≠ 0 ↔ c := by
  unfold bz
  by_cases h : c <;> simp [h]
theorem bz_rg (c : Prop) [Decidable c] : 0 ≤ bz c ∧ bz c ≤ 1 := by
  unfold bz
  by_cases h : c <;> simp [h]
/-- a method's end: an int, a boolean, nothing -/
def pI (r : Int) (P : Heap → Prop) : Option Value → Heap → Prop := fun v H => v = some (vi r) ∧ (-2147483648 ≤ r ∧ r < 2147483648) ∧ P H
def pZ (c : Prop) [Decidable c] (P : Heap → Prop) : Option Value → Heap → Prop := fun v H => v = some (vi (bz c)) ∧ P H
def pV (P : Heap → Prop) : Option Value → Heap → Prop := fun v H => v = none ∧ P H
section XR7
variable {Γ : xE} {G : xG} {cc : ByteArray} {own : String} {nL : Nat} {rm : Room} {A : Nat → Prop} {kc ks pc : Nat} {P : Heap → Prop} {L : List (Nat × Value)} {st st0 : List Value}
variable {idx : Nat} {y : MethodName} {bytes : ByteArray} {nL' : Nat} {ret : Option FieldType} {ci n : Nat} {rm' : Room} {b : Nat} {As : List Value} {P' : Heap → Prop}
/-- a number's other name -/
theorem x_nm {x : Int} (k : ∀ z : Int, z = x → XJ Γ kc ks P pc L (vi z :: st)) : XJ Γ kc ks P pc L (vi x :: st) := k x rfl
theorem x_getI (B : XB Γ G cc own nL rm A) {k a : Nat} {z : Int} (lk : LkG own idx ci k) (d : decode cc pc = .ok (.getfield idx, 3)) (hv : ∀ H, P H → ∃ fs, oat G a ci fs H ∧ fs[k]? = some (vi z) ∧ (-2147483648 ≤ z ∧ z < 2147483648))
    (kk : (-2147483648 ≤ z ∧ z < 2147483648) → XJ Γ kc ks P (pc + 3) L (vi z :: st)) : XJ Γ kc ks P pc L (.ref a :: st) :=
  x_fact (φ := -2147483648 ≤ z ∧ z < 2147483648) (fun H h => (hv H h).choose_spec.2.2) (fun h => x_get B lk d (fun H hp => ⟨(hv H hp).choose, (hv H hp).choose_spec.1, (hv H hp).choose_spec.2.1⟩) (kk h))
theorem x_ialdR (B : XB Γ G cc own nL rm A) {a n : Nat} {f : Int → Int} {z : Int} (d : decode cc pc = .ok (.iaload, 1)) (hz : 0 ≤ z ∧ z < n) (hn : n ≤ 2147483647) (hv : ∀ H, P H → aat G 0 a n f H ∧ ∀ k, -2147483648 ≤ f k ∧ f k < 2147483648)
    (kk : (-2147483648 ≤ f z ∧ f z < 2147483648) → XJ Γ kc ks P (pc + 1) L (vi (f z) :: st)) : XJ Γ kc ks P pc L (vi z :: .ref a :: st) :=
  x_fact (fun H h => (hv H h).2 z) (fun h => x_iald B d hz hn (fun H hp => (hv H hp).1) (kk h))
theorem x_mV (B : XB Γ G cc own nL rm A) {r : Int} (lk : LkV own idx y bytes nL' ret ci n) (hM : ∀ l, CT G l y bytes nL' ret rm' 0 0 (.ref b :: As) P (pI r P') A)
    (d : decode cc pc = .ok (.invokevirtual idx, 3)) (hst : st0 = As.reverse ++ .ref b :: st) (hn : As.length = n) (hR : rm'.cells = 0 ∧ rm'.slots = 0 ∧ rm'.frames + 1 ≤ rm.frames ∧ 8 + (nL' + 11) + rm'.locals ≤ rm.locals)
    (hf : kc ≤ rm.cells ∧ ks ≤ rm.slots) (hw : (st.map fun v => v.category).sum ≤ 8) (hP : ∀ H, P H → ∃ fs, oat G b ci fs H)
    (kk : (-2147483648 ≤ r ∧ r < 2147483648) → XJ Γ kc ks P' (pc + 3) L (vi r :: st)) : XJ Γ kc ks P pc L st0 :=
  x_callVg B lk hM d hst hn hR hf hw (fun _ h => h) (fun H h => ⟨h, hP H h⟩) (ι := PLift (-2147483648 ≤ r ∧ r < 2147483648)) (v := fun _ => some (vi r)) (P' := fun _ => P') (fun v' H H1 _ h _ _ => ⟨⟨h.2.1⟩, h.1, h.2.2⟩) (fun i => kk i.down)
theorem x_mZ (B : XB Γ G cc own nL rm A) {c : Prop} [Decidable c] (lk : LkV own idx y bytes nL' ret ci n) (hM : ∀ l, CT G l y bytes nL' ret rm' 0 0 (.ref b :: As) P (pZ c P') A)
    (d : decode cc pc = .ok (.invokevirtual idx, 3)) (hst : st0 = As.reverse ++ .ref b :: st) (hn : As.length = n) (hR : rm'.cells = 0 ∧ rm'.slots = 0 ∧ rm'.frames + 1 ≤ rm.frames ∧ 8 + (nL' + 11) + rm'.locals ≤ rm.locals)
    (hf : kc ≤ rm.cells ∧ ks ≤ rm.slots) (hw : (st.map fun v => v.category).sum ≤ 8) (hP : ∀ H, P H → ∃ fs, oat G b ci fs H)
    (kk : XJ Γ kc ks P' (pc + 3) L (vi (bz c) :: st)) : XJ Γ kc ks P pc L st0 :=
  x_callVg B lk hM d hst hn hR hf hw (fun _ h => h) (fun H h => ⟨h, hP H h⟩) (ι := Unit) (v := fun _ => some (vi (bz c))) (P' := fun _ => P') (fun v' H H1 _ h _ _ => ⟨(), h.1, h.2⟩) (fun _ => kk)
theorem x_mN (B : XB Γ G cc own nL rm A) (lk : LkV own idx y bytes nL' ret ci n) (hM : ∀ l, CT G l y bytes nL' ret rm' 0 0 (.ref b :: As) P (pV P') A)
    (d : decode cc pc = .ok (.invokevirtual idx, 3)) (hst : st0 = As.reverse ++ .ref b :: st) (hn : As.length = n) (hR : rm'.cells = 0 ∧ rm'.slots = 0 ∧ rm'.frames + 1 ≤ rm.frames ∧ 8 + (nL' + 11) + rm'.locals ≤ rm.locals)
    (hf : kc ≤ rm.cells ∧ ks ≤ rm.slots) (hw : (st.map fun v => v.category).sum ≤ 8) (hP : ∀ H, P H → ∃ fs, oat G b ci fs H)
    (kk : XJ Γ kc ks P' (pc + 3) L st) : XJ Γ kc ks P pc L st0 :=
  x_callVg B lk hM d hst hn hR hf hw (fun _ h => h) (fun H h => ⟨h, hP H h⟩) (ι := Unit) (v := fun _ => none) (P' := fun _ => P') (fun v' H H1 _ h _ _ => ⟨(), h.1, h.2⟩) (fun _ => kk)
theorem x_sV (B : XB Γ G cc own nL rm A) {r : Int} (lk : LkS own idx y bytes nL' ret n) (hM : ∀ l, CT G l y bytes nL' ret rm' 0 0 As P (pI r P') A)
    (d : decode cc pc = .ok (.invokestatic idx, 3)) (hst : st0 = As.reverse ++ st) (hn : As.length = n) (hR : rm'.cells = 0 ∧ rm'.slots = 0 ∧ rm'.frames + 1 ≤ rm.frames ∧ 8 + (nL' + 11) + rm'.locals ≤ rm.locals)
    (hf : kc ≤ rm.cells ∧ ks ≤ rm.slots) (hw : (st.map fun v => v.category).sum ≤ 8)
    (kk : (-2147483648 ≤ r ∧ r < 2147483648) → XJ Γ kc ks P' (pc + 3) L (vi r :: st)) : XJ Γ kc ks P pc L st0 :=
  x_callSg B lk hM d hst hn hR hf hw (fun _ h => h) (fun H h => h) (ι := PLift (-2147483648 ≤ r ∧ r < 2147483648)) (v := fun _ => some (vi r)) (P' := fun _ => P') (fun v' H H1 _ h _ _ => ⟨⟨h.2.1⟩, h.1, h.2.2⟩) (fun i => kk i.down)
theorem x_sZ (B : XB Γ G cc own nL rm A) {c : Prop} [Decidable c] (lk : LkS own idx y bytes nL' ret n) (hM : ∀ l, CT G l y bytes nL' ret rm' 0 0 As P (pZ c P') A)
    (d : decode cc pc = .ok (.invokestatic idx, 3)) (hst : st0 = As.reverse ++ st) (hn : As.length = n) (hR : rm'.cells = 0 ∧ rm'.slots = 0 ∧ rm'.frames + 1 ≤ rm.frames ∧ 8 + (nL' + 11) + rm'.locals ≤ rm.locals)
    (hf : kc ≤ rm.cells ∧ ks ≤ rm.slots) (hw : (st.map fun v => v.category).sum ≤ 8)
    (kk : XJ Γ kc ks P' (pc + 3) L (vi (bz c) :: st)) : XJ Γ kc ks P pc L st0 :=
  x_callSg B lk hM d hst hn hR hf hw (fun _ h => h) (fun H h => h) (ι := Unit) (v := fun _ => some (vi (bz c))) (P' := fun _ => P') (fun v' H H1 _ h _ _ => ⟨(), h.1, h.2⟩) (fun _ => kk)
theorem x_sN (B : XB Γ G cc own nL rm A) (lk : LkS own idx y bytes nL' ret n) (hM : ∀ l, CT G l y bytes nL' ret rm' 0 0 As P (pV P') A)
    (d : decode cc pc = .ok (.invokestatic idx, 3)) (hst : st0 = As.reverse ++ st) (hn : As.length = n) (hR : rm'.cells = 0 ∧ rm'.slots = 0 ∧ rm'.frames + 1 ≤ rm.frames ∧ 8 + (nL' + 11) + rm'.locals ≤ rm.locals)
    (hf : kc ≤ rm.cells ∧ ks ≤ rm.slots) (hw : (st.map fun v => v.category).sum ≤ 8)
    (kk : XJ Γ kc ks P' (pc + 3) L st) : XJ Γ kc ks P pc L st0 :=
  x_callSg B lk hM d hst hn hR hf hw (fun _ h => h) (fun H h => h) (ι := Unit) (v := fun _ => none) (P' := fun _ => P') (fun v' H H1 _ h _ _ => ⟨(), h.1, h.2⟩) (fun _ => kk)
theorem x_ifz_eq (B : XB Γ G cc own nL rm A) {c : Prop} [Decidable c] {off : Int} {tgt : Nat} (d : decode cc pc = .ok (.ifCond .eq off, 3)) (ht : (pc : Int) + off = (tgt : Int))
    (kt : ¬ c → XJ Γ kc ks P tgt L st) (kf : c → XJ Γ kc ks P (pc + 3) L st) : XJ Γ kc ks P pc L (vi (bz c) :: st) :=
  x_if_eq B d ht (by have := bz_rg c; omega) (fun h => kt (fun q => by rw [bz_t q] at h; omega)) (fun h => kf (bz_ne.mp h))
theorem x_ifz_ne (B : XB Γ G cc own nL rm A) {c : Prop} [Decidable c] {off : Int} {tgt : Nat} (d : decode cc pc = .ok (.ifCond .ne off, 3)) (ht : (pc : Int) + off = (tgt : Int))
    (kt : c → XJ Γ kc ks P tgt L st) (kf : ¬ c → XJ Γ kc ks P (pc + 3) L st) : XJ Γ kc ks P pc L (vi (bz c) :: st) :=
  x_if_ne B d ht (by have := bz_rg c; omega) (fun h => kt (bz_ne.mp h)) (fun h => kf (fun q => by rw [bz_t q] at h; omega))
theorem x_retI (B : XB Γ G cc own nL rm A) {nm : String} {r z : Int} (R : XR Γ nm (some .int) kc ks (xQ (pI r P') A)) (d : decode cc pc = .ok (.ireturn, 1)) (he : z = r) (hr : -2147483648 ≤ r ∧ r < 2147483648) (hq : ∀ H, P H → P' H) : XJ Γ kc ks P pc L [vi z] :=
  x_iret B R d (fun H h => ⟨by rw [he], hr, hq H h⟩)
theorem x_retZ (B : XB Γ G cc own nL rm A) {nm : String} {c : Prop} [Decidable c] {z : Int} (R : XR Γ nm (some .boolean) kc ks (xQ (pZ c P') A)) (d : decode cc pc = .ok (.ireturn, 1)) (he : z = bz c) (hq : ∀ H, P H → P' H) : XJ Γ kc ks P pc L [vi z] :=
  x_zret B R d (by
    rw [he]
    by_cases h : c
    · rw [bz_t h]; rfl
    · rw [bz_f h]; rfl) (fun H h => ⟨by rw [he], hq H h⟩)
theorem x_retV (B : XB Γ G cc own nL rm A) {nm : String} (R : XR Γ nm none kc ks (xQ (pV P') A)) (d : decode cc pc = .ok (.return_, 1)) (hq : ∀ H, P H → P' H) : XJ Γ kc ks P pc L [] :=
  x_vret B R d (fun H h => ⟨rfl, hq H h⟩)
theorem x_dup2 (B : XB Γ G cc own nL rm A) {v w : Value} (d : decode cc pc = .ok (.dup2, 1)) (hv : v.category = 1) (hw : w.category = 1) (k : XJ Γ kc ks P (pc + 1) L (v :: w :: v :: w :: st)) : XJ Γ kc ks P pc L (v :: w :: st) := by
  obtain ⟨p, l, e, R, s, m, args, below, meth, c, A', Q⟩ := Γ
  obtain ⟨hx, hb, hml, -⟩ := B
  intro H locs ls hP hS hL
  exact lv_dup2_11 hx hb d hv hw (k H locs ls hP hS hL)
theorem x_pop (B : XB Γ G cc own nL rm A) {v : Value} (d : decode cc pc = .ok (.pop, 1)) (hv : v.category = 1) (k : XJ Γ kc ks P (pc + 1) L st) : XJ Γ kc ks P pc L (v :: st) := by
  obtain ⟨p, l, e, R, s, m, args, below, meth, c, A', Q⟩ := Γ
  obtain ⟨hx, hb, hml, -⟩ := B
  intro H locs ls hP hS hL
  exact lv_pop hx hb d hv (k H locs ls hP hS hL)
theorem x_iand (B : XB Γ G cc own nL rm A) {x y w : Int} (d : decode cc pc = .ok (.iand, 1)) (hv : Int32.ofInt x &&& Int32.ofInt y = Int32.ofInt w) (k : XJ Γ kc ks P (pc + 1) L (vi w :: st)) : XJ Γ kc ks P pc L (vi y :: vi x :: st) := by
  obtain ⟨p, l, e, R, s, m, args, below, meth, c, A', Q⟩ := Γ
  obtain ⟨hx, hb, hml, -⟩ := B
  intro H locs ls hP hS hL
  refine lv_iand hx hb d ?_
  rw [hv]
  exact k H locs ls hP hS hL
theorem x_ior (B : XB Γ G cc own nL rm A) {x y w : Int} (d : decode cc pc = .ok (.ior, 1)) (hv : Int32.ofInt x ||| Int32.ofInt y = Int32.ofInt w) (k : XJ Γ kc ks P (pc + 1) L (vi w :: st)) : XJ Γ kc ks P pc L (vi y :: vi x :: st) := by
  obtain ⟨p, l, e, R, s, m, args, below, meth, c, A', Q⟩ := Γ
  obtain ⟨hx, hb, hml, -⟩ := B
  intro H locs ls hP hS hL
  refine lv_ior hx hb d ?_
  rw [hv]
  exact k H locs ls hP hS hL
theorem x_ishl (B : XB Γ G cc own nL rm A) {x y w : Int} (d : decode cc pc = .ok (.ishl, 1)) (hv : Int32.ofInt x <<< (Int32.ofInt y &&& 31) = Int32.ofInt w) (k : XJ Γ kc ks P (pc + 1) L (vi w :: st)) : XJ Γ kc ks P pc L (vi y :: vi x :: st) := by
  obtain ⟨p, l, e, R, s, m, args, below, meth, c, A', Q⟩ := Γ
  obtain ⟨hx, hb, hml, -⟩ := B
  intro H locs ls hP hS hL
  refine lv_ishl hx hb d ?_
  rw [hv]
  exact k H locs ls hP hS hL
theorem x_ishr (B : XB Γ G cc own nL rm A) {x y w : Int} (d : decode cc pc = .ok (.ishr, 1)) (hv : Int32.ofInt x >>> (Int32.ofInt y &&& 31) = Int32.ofInt w) (k : XJ Γ kc ks P (pc + 1) L (vi w :: st)) : XJ Γ kc ks P pc L (vi y :: vi x :: st) := by
  obtain ⟨p, l, e, R, s, m, args, below, meth, c, A', Q⟩ := Γ
  obtain ⟨hx, hb, hml, -⟩ := B
  intro H locs ls hP hS hL
  refine lv_ishr hx hb d ?_
  rw [hv]
  exact k H locs ls hP hS hL
theorem x_tsw (B : XB Γ G cc own nL rm A) {dflt lo hi : Int} {offs : Array Int} {len : Nat} {x : Int} {tgt : Nat} {tgs : List Nat} {n : Nat} (d : decode cc pc = .ok (.tableswitch dflt lo hi offs, len)) (ht : (pc : Int) + dflt = (tgt : Int)) (hts : offs.toList.map (fun o : Int => (pc : Int) + o) = tgs.map (fun t : Nat => (t : Int))) (hn : tgs.length = n) (hlh : hi - lo + 1 = (n : Int)) (hx : -2147483648 ≤ x ∧ x < 2147483648)
    (kout : x < lo ∨ hi < x → XJ Γ kc ks P tgt L st) (kin : ∀ i : Nat, i < n → x = lo + (i : Int) → XJ Γ kc ks P (tgs.getD i 0) L st) : XJ Γ kc ks P pc L (vi x :: st) := by
  obtain ⟨p, l, e, R, s, m, args, below, meth, c, A', Q⟩ := Γ
  obtain ⟨hx0, hb, hml, -⟩ := B
  intro H locs ls hP hS hL
  have e0 : (Int32.ofInt x).toInt = x := Int32.toInt_ofInt_of_le (by omega) (by omega)
  by_cases h : x < lo ∨ hi < x
  · exact lv_tableOut hx0 hb d (by rw [e0]; exact h) ht (kout h H locs ls hP hS hL)
  · have hlo : lo ≤ x := by omega
    have hhi : x ≤ hi := by omega
    have hi1 : (x - lo).toNat < n := by omega
    have h1 : (offs.toList.map (fun o => (pc : Int) + o))[(x - lo).toNat]? = some ((tgs.getD (x - lo).toNat 0 : Nat) : Int) := by
      rw [hts, List.getElem?_map, List.getElem?_eq_getElem (by omega : (x - lo).toNat < tgs.length)]
      simp [List.getD, List.getElem?_eq_getElem (by omega : (x - lo).toNat < tgs.length)]
    rw [List.getElem?_map] at h1
    cases ho : offs.toList[(x - lo).toNat]? with
    | none => rw [ho] at h1; cases h1
    | some off =>
      rw [ho] at h1
      have h2 : (pc : Int) + off = ((tgs.getD (x - lo).toNat 0 : Nat) : Int) := Option.some.inj h1
      exact lv_tableIn hx0 hb d (by rw [e0]; omega) (by rw [e0]; omega) (by rw [e0, ← Array.getElem?_toList]; exact ho) h2 (kin (x - lo).toNat hi1 (by omega) H locs ls hP hS hL)
end XR7
theorem x_met1 {G : xG} {l : Launch} {y : MethodName} {cc : ByteArray} {nL : Nat} {ret : Option FieldType} {rm : Room} {mc ms : Nat} {av : List Value} {P : Heap → Prop} {post : Option Value → Heap → Prop} {A : Nat → Prop} {own nm : String} {L : List (Nat × Value)}
    (hp : plainName y.cls = true) (ho : y.cls = own) (hnm : y.name = nm) (hrm : ∀ ws, (headSpec ws rm).room = rm) (hn : (lg_sl av).length ≤ nL) (hL : lv_args 0 av = L) (hc : L.all (fun q => Nat.beq q.2.category 1) = true)
    (body : ∀ Γ : xE, XB Γ G cc own nL rm A → XR Γ nm ret mc ms (xQ post A) → XJ Γ 0 0 P 0 L []) : CT G l y cc nL ret rm mc ms av P post A := by
  subst ho
  subst hnm
  exact x_met hp hrm hn hL (fun q hq => Nat.eq_of_beq_eq_true (List.all_eq_true.mp hc q hq)) (fun Γ _ B R => body Γ B R)
theorem xl_nil {L : List (Nat × Value)} : ∀ q ∈ ([] : List (Nat × Value)), lget L q.1 = some q.2 := fun _ h => by cases h
theorem xl_cons {L L' : List (Nat × Value)} {i : Nat} {v : Value} (h : lget L i = some v) (h' : ∀ q ∈ L', lget L q.1 = some q.2) : ∀ q ∈ (i, v) :: L', lget L q.1 = some q.2 := fun q hq => by
  rcases List.mem_cons.mp hq with e | e
  · rw [e]; exact h
  · exact h' q e
/-- the locals in another order, or fewer -/
theorem x_locs {Γ : xE} {kc ks pc : Nat} {P : Heap → Prop} {L L' : List (Nat × Value)} {st : List Value} (h : ∀ q ∈ L', lget L q.1 = some q.2) (k : XJ Γ kc ks P pc L' st) : XJ Γ kc ks P pc L st :=
  x_loc (fun q hq => lget_mem (h q hq)) k
end
section
/-! ===== bits of numbers that are not negative ===== -/
theorem i32_nat (n : Nat) : Int32.ofInt (n : Int) = Int32.ofBitVec (BitVec.ofNat 32 n) := by
  rw [Int32.ofInt_eq_ofNat]
  rfl
theorem i32_andN (a b : Nat) : Int32.ofInt (a : Int) &&& Int32.ofInt (b : Int) = Int32.ofInt ((a &&& b : Nat) : Int) := by
  rw [i32_nat, i32_nat, i32_nat, ← Int32.ofBitVec_and, ← BitVec.ofNat_and]
theorem i32_orN (a b : Nat) : Int32.ofInt (a : Int) ||| Int32.ofInt (b : Int) = Int32.ofInt ((a ||| b : Nat) : Int) := by
  rw [i32_nat, i32_nat, i32_nat, ← Int32.ofBitVec_or, ← BitVec.ofNat_or]
/-- and with a mask -/
theorem i32_mask {x : Int} (n : Nat) (y : Int) (hy : y = ((2 ^ n - 1 : Nat) : Int)) (hx : 0 ≤ x) : Int32.ofInt x &&& Int32.ofInt y = Int32.ofInt (x % ((2 ^ n : Nat) : Int)) := by
  obtain ⟨a, rfl⟩ := Int.eq_ofNat_of_zero_le hx
  rw [hy, i32_andN, Nat.and_two_pow_sub_one_eq_mod]
  rfl
theorem i32_sh : ∀ k : Fin 32, Int32.ofInt (k.val : Int) &&& 31 = Int32.ofInt (k.val : Int) ∧ ((Int32.ofInt (k.val : Int)).toBitVec.smod 32).toNat = k.val := by decide +kernel
theorem i32_shr {x k : Int} (hx : 0 ≤ x ∧ x < 2147483648) (hk : 0 ≤ k ∧ k < 32) : Int32.ofInt x >>> (Int32.ofInt k &&& 31) = Int32.ofInt (x / ((2 ^ k.toNat : Nat) : Int)) := by
  obtain ⟨c, rfl⟩ := Int.eq_ofNat_of_zero_le hk.1
  obtain ⟨h1, h2⟩ := i32_sh ⟨c, by omega⟩
  simp only at h1 h2
  rw [h1, ← Int32.toInt_inj]
  have e : (Int32.ofInt x >>> Int32.ofInt (c : Int)).toInt = (Int32.ofInt x).toInt >>> c := by
    show ((Int32.ofInt x).toBitVec.sshiftRight' ((Int32.ofInt (c : Int)).toBitVec.smod 32)).toInt = _
    rw [BitVec.sshiftRight_eq', BitVec.toInt_sshiftRight, h2]
    rfl
  have hp : (0 : Int) < ((2 ^ c : Nat) : Int) := by exact_mod_cast Nat.two_pow_pos c
  have h3 : 0 ≤ x / ((2 ^ c : Nat) : Int) := Int.ediv_nonneg hx.1 (Int.le_of_lt hp)
  have h4 : x / ((2 ^ c : Nat) : Int) ≤ x := Int.ediv_le_self _ hx.1
  rw [e, Int32.toInt_ofInt_of_le (by omega) (by omega), Int.toNat_natCast, Int32.toInt_ofInt_of_le (by omega) (by omega), Int.shiftRight_eq_div_pow]
theorem i32_shl {x k : Int} (hk : 0 ≤ k ∧ k < 32) : Int32.ofInt x <<< (Int32.ofInt k &&& 31) = Int32.ofInt (x * ((2 ^ k.toNat : Nat) : Int)) := by
  obtain ⟨c, rfl⟩ := Int.eq_ofNat_of_zero_le hk.1
  obtain ⟨h1, h2⟩ := i32_sh ⟨c, by omega⟩
  simp only at h1 h2
  rw [h1, Int.toNat_natCast]
  apply Int32.toBitVec.inj
  show (Int32.ofInt x).toBitVec <<< ((Int32.ofInt (c : Int)).toBitVec.smod 32) = _
  rw [BitVec.shiftLeft_eq', h2]
  rw [BitVec.shiftLeft_eq_mul_twoPow]
  show BitVec.ofInt 32 x * _ = BitVec.ofInt 32 _
  rw [BitVec.ofInt_mul]
  congr 1
  rw [← BitVec.toNat_inj]
  simp [BitVec.toNat_twoPow]
  have h5 : ((2 : Int) ^ c) = ((2 ^ c : Nat) : Int) := by norm_cast
  rw [h5]
  omega
/-- or of two that share no bit: their sum -/
theorem i32_or {x y z : Int} (n : Nat) (hx : 0 ≤ x ∧ x < ((2 ^ n : Nat) : Int)) (hy : y = z * ((2 ^ n : Nat) : Int)) (hz : 0 ≤ z) : Int32.ofInt x ||| Int32.ofInt y = Int32.ofInt (x + y) := by
  obtain ⟨a, rfl⟩ := Int.eq_ofNat_of_zero_le hx.1
  obtain ⟨c, rfl⟩ := Int.eq_ofNat_of_zero_le hz
  have ha : a < 2 ^ n := by exact_mod_cast hx.2
  have e : y = ((2 ^ n * c : Nat) : Int) := by rw [hy, Nat.mul_comm]; norm_cast
  rw [e, i32_orN, Nat.or_comm, ← Nat.two_pow_add_eq_or_of_lt ha]
  congr 1
  omega
end
section
/-! ===== the reference's cells: m, and the rest ρ: 0 spare, 1 saved, 2 text, 3 read, 4 order, 5 the numbers (0 savedCount, 1 textLength, 2 at, 3 faultReason, 4 number) ===== -/
def ur (ρ : Nat → Int → Int) (i : Nat) (f : Int → Int) : Nat → Int → Int := fun j => if j = i then f else ρ j
theorem ur_eq {ρ : Nat → Int → Int} {i : Nat} {f : Int → Int} : ur ρ i f i = f := if_pos rfl
theorem ur_ne {ρ : Nat → Int → Int} {i j : Nat} {f : Int → Int} (h : j ≠ i) : ur ρ i f j = ρ j := if_neg h
def PM (G : xG) (b : Nat) (m : Int → Int) (ρ : Nat → Int → Int) (H : Heap) : Prop :=
  oat G b 7 [.ref (b + 1), .ref (b + 2), .ref (b + 3), vi (ρ 5 0), .ref (b + 4), vi (ρ 5 1), vi (ρ 5 2), vi (ρ 5 3), vi (ρ 5 4), .ref (b + 5), .ref (b + 6)] H ∧ aat G 0 (b + 1) 788 m H ∧ aat G 0 (b + 2) 788 (ρ 0) H ∧ aat G 0 (b + 3) 3152 (ρ 1) H ∧ aat G 0 (b + 4) 100 (ρ 2) H ∧ aat G 0 (b + 5) 8 (ρ 3) H ∧ aat G 0 (b + 6) 12 (ρ 4) H ∧
  (∀ k, -2147483648 ≤ m k ∧ m k < 2147483648) ∧ ∀ i k, -2147483648 ≤ ρ i k ∧ ρ i k < 2147483648
def AM (b : Nat) : Nat → Prop := fun q => b ≤ q ∧ q < b + 7
section PMS
variable {G : xG} {b : Nat} {m : Int → Int} {ρ : Nat → Int → Int} {z v : Int}
theorem PM.o {H : Heap} (h : PM G b m ρ H) : oat G b 7 [.ref (b + 1), .ref (b + 2), .ref (b + 3), vi (ρ 5 0), .ref (b + 4), vi (ρ 5 1), vi (ρ 5 2), vi (ρ 5 3), vi (ρ 5 4), .ref (b + 5), .ref (b + 6)] H := h.1
theorem PM.rv : ∀ H, PM G b m ρ H → ∃ fs, oat G b 7 fs H := fun _ h => ⟨_, h.1⟩
theorem PM.am : ∀ H, PM G b m ρ H → aat G 0 (b + 1) 788 m H ∧ ∀ k, -2147483648 ≤ m k ∧ m k < 2147483648 := fun _ h => ⟨h.2.1, h.2.2.2.2.2.2.2.1⟩
theorem PM.kept {H H1 : Heap} (h : PM G b m ρ H) (hq : ∀ q : Nat, b ≤ q → q < b + 7 → H1[q]? = H[q]?) : PM G b m ρ H1 := by
  obtain ⟨h0, h1, h2, h3, h4, h5, h6, h7⟩ := h
  exact ⟨h0.kept (hq _ (by omega) (by omega)), h1.kept (hq _ (by omega) (by omega)), h2.kept (hq _ (by omega) (by omega)), h3.kept (hq _ (by omega) (by omega)), h4.kept (hq _ (by omega) (by omega)), h5.kept (hq _ (by omega) (by omega)), h6.kept (hq _ (by omega) (by omega)), h7⟩
theorem up_rg {f : Int → Int} (h : ∀ k, -2147483648 ≤ f k ∧ f k < 2147483648) (hv : -2147483648 ≤ v ∧ v < 2147483648) : ∀ k, -2147483648 ≤ up f z v k ∧ up f z v k < 2147483648 := by
  intro k
  unfold up
  split
  · exact hv
  · exact h k
theorem ur_rg {f : Int → Int} {i : Nat} (h : ∀ i k, -2147483648 ≤ ρ i k ∧ ρ i k < 2147483648) (hv : ∀ k, -2147483648 ≤ f k ∧ f k < 2147483648) : ∀ j k, -2147483648 ≤ ur ρ i f j k ∧ ur ρ i f j k < 2147483648 := by
  intro j k
  unfold ur
  split
  · exact hv k
  · exact h j k
theorem PM.a0 : ∀ H, PM G b m ρ H → aat G 0 (b + 2) 788 (ρ 0) H ∧ ∀ k, -2147483648 ≤ ρ 0 k ∧ ρ 0 k < 2147483648 := fun _ h => ⟨h.2.2.1, h.2.2.2.2.2.2.2.2 0⟩
theorem PM.a1 : ∀ H, PM G b m ρ H → aat G 0 (b + 3) 3152 (ρ 1) H ∧ ∀ k, -2147483648 ≤ ρ 1 k ∧ ρ 1 k < 2147483648 := fun _ h => ⟨h.2.2.2.1, h.2.2.2.2.2.2.2.2 1⟩
theorem PM.a2 : ∀ H, PM G b m ρ H → aat G 0 (b + 4) 100 (ρ 2) H ∧ ∀ k, -2147483648 ≤ ρ 2 k ∧ ρ 2 k < 2147483648 := fun _ h => ⟨h.2.2.2.2.1, h.2.2.2.2.2.2.2.2 2⟩
theorem PM.a3 : ∀ H, PM G b m ρ H → aat G 0 (b + 5) 8 (ρ 3) H ∧ ∀ k, -2147483648 ≤ ρ 3 k ∧ ρ 3 k < 2147483648 := fun _ h => ⟨h.2.2.2.2.2.1, h.2.2.2.2.2.2.2.2 3⟩
theorem PM.a4 : ∀ H, PM G b m ρ H → aat G 0 (b + 6) 12 (ρ 4) H ∧ ∀ k, -2147483648 ≤ ρ 4 k ∧ ρ 4 k < 2147483648 := fun _ h => ⟨h.2.2.2.2.2.2.1, h.2.2.2.2.2.2.2.2 4⟩
theorem PM.g3 : ∀ H, PM G b m ρ H → ∃ fs, oat G b 7 fs H ∧ fs[3]? = some (vi (ρ 5 0)) ∧ (-2147483648 ≤ ρ 5 0 ∧ ρ 5 0 < 2147483648) := fun _ h => ⟨_, h.1, rfl, h.2.2.2.2.2.2.2.2 5 0⟩
theorem PM.g5 : ∀ H, PM G b m ρ H → ∃ fs, oat G b 7 fs H ∧ fs[5]? = some (vi (ρ 5 1)) ∧ (-2147483648 ≤ ρ 5 1 ∧ ρ 5 1 < 2147483648) := fun _ h => ⟨_, h.1, rfl, h.2.2.2.2.2.2.2.2 5 1⟩
theorem PM.g6 : ∀ H, PM G b m ρ H → ∃ fs, oat G b 7 fs H ∧ fs[6]? = some (vi (ρ 5 2)) ∧ (-2147483648 ≤ ρ 5 2 ∧ ρ 5 2 < 2147483648) := fun _ h => ⟨_, h.1, rfl, h.2.2.2.2.2.2.2.2 5 2⟩
theorem PM.g7 : ∀ H, PM G b m ρ H → ∃ fs, oat G b 7 fs H ∧ fs[7]? = some (vi (ρ 5 3)) ∧ (-2147483648 ≤ ρ 5 3 ∧ ρ 5 3 < 2147483648) := fun _ h => ⟨_, h.1, rfl, h.2.2.2.2.2.2.2.2 5 3⟩
theorem PM.g8 : ∀ H, PM G b m ρ H → ∃ fs, oat G b 7 fs H ∧ fs[8]? = some (vi (ρ 5 4)) ∧ (-2147483648 ≤ ρ 5 4 ∧ ρ 5 4 < 2147483648) := fun _ h => ⟨_, h.1, rfl, h.2.2.2.2.2.2.2.2 5 4⟩
theorem PM.sm (hv : -2147483648 ≤ v ∧ v < 2147483648) : ∀ H, PM G b m ρ H → aat G 0 (b + 1) 788 m H ∧ ∀ H1, aat G 0 (b + 1) 788 (up m z v) H1 → H1.size = H.size → (∀ q, q ≠ b + 1 → H1[q]? = H[q]?) → PM G b (up m z v) ρ H1 := by
  intro H ⟨h0, h1, h2, h3, h4, h5, h6, h7, h8⟩
  refine ⟨h1, fun H1 e _ hq => ⟨h0.kept (hq _ (by omega)), e, h2.kept (hq _ (by omega)), h3.kept (hq _ (by omega)), h4.kept (hq _ (by omega)), h5.kept (hq _ (by omega)), h6.kept (hq _ (by omega)), up_rg h7 hv, h8⟩⟩
theorem PM.s0 (hv : -2147483648 ≤ v ∧ v < 2147483648) : ∀ H, PM G b m ρ H → aat G 0 (b + 2) 788 (ρ 0) H ∧ ∀ H1, aat G 0 (b + 2) 788 (up (ρ 0) z v) H1 → H1.size = H.size → (∀ q, q ≠ b + 2 → H1[q]? = H[q]?) → PM G b m (ur ρ 0 (up (ρ 0) z v)) H1 := by
  intro H ⟨h0, h1, h2, h3, h4, h5, h6, h7, h8⟩
  exact ⟨h2, fun H1 e _ hq => ⟨h0.kept (hq _ (by omega)), h1.kept (hq _ (by omega)), e, h3.kept (hq _ (by omega)), h4.kept (hq _ (by omega)), h5.kept (hq _ (by omega)), h6.kept (hq _ (by omega)), h7, ur_rg h8 (up_rg (h8 0) hv)⟩⟩
theorem PM.s1 (hv : -2147483648 ≤ v ∧ v < 2147483648) : ∀ H, PM G b m ρ H → aat G 0 (b + 3) 3152 (ρ 1) H ∧ ∀ H1, aat G 0 (b + 3) 3152 (up (ρ 1) z v) H1 → H1.size = H.size → (∀ q, q ≠ b + 3 → H1[q]? = H[q]?) → PM G b m (ur ρ 1 (up (ρ 1) z v)) H1 := by
  intro H ⟨h0, h1, h2, h3, h4, h5, h6, h7, h8⟩
  exact ⟨h3, fun H1 e _ hq => ⟨h0.kept (hq _ (by omega)), h1.kept (hq _ (by omega)), h2.kept (hq _ (by omega)), e, h4.kept (hq _ (by omega)), h5.kept (hq _ (by omega)), h6.kept (hq _ (by omega)), h7, ur_rg h8 (up_rg (h8 1) hv)⟩⟩
theorem PM.s2 (hv : -2147483648 ≤ v ∧ v < 2147483648) : ∀ H, PM G b m ρ H → aat G 0 (b + 4) 100 (ρ 2) H ∧ ∀ H1, aat G 0 (b + 4) 100 (up (ρ 2) z v) H1 → H1.size = H.size → (∀ q, q ≠ b + 4 → H1[q]? = H[q]?) → PM G b m (ur ρ 2 (up (ρ 2) z v)) H1 := by
  intro H ⟨h0, h1, h2, h3, h4, h5, h6, h7, h8⟩
  exact ⟨h4, fun H1 e _ hq => ⟨h0.kept (hq _ (by omega)), h1.kept (hq _ (by omega)), h2.kept (hq _ (by omega)), h3.kept (hq _ (by omega)), e, h5.kept (hq _ (by omega)), h6.kept (hq _ (by omega)), h7, ur_rg h8 (up_rg (h8 2) hv)⟩⟩
theorem PM.s3 (hv : -2147483648 ≤ v ∧ v < 2147483648) : ∀ H, PM G b m ρ H → aat G 0 (b + 5) 8 (ρ 3) H ∧ ∀ H1, aat G 0 (b + 5) 8 (up (ρ 3) z v) H1 → H1.size = H.size → (∀ q, q ≠ b + 5 → H1[q]? = H[q]?) → PM G b m (ur ρ 3 (up (ρ 3) z v)) H1 := by
  intro H ⟨h0, h1, h2, h3, h4, h5, h6, h7, h8⟩
  exact ⟨h5, fun H1 e _ hq => ⟨h0.kept (hq _ (by omega)), h1.kept (hq _ (by omega)), h2.kept (hq _ (by omega)), h3.kept (hq _ (by omega)), h4.kept (hq _ (by omega)), e, h6.kept (hq _ (by omega)), h7, ur_rg h8 (up_rg (h8 3) hv)⟩⟩
theorem PM.s4 (hv : -2147483648 ≤ v ∧ v < 2147483648) : ∀ H, PM G b m ρ H → aat G 0 (b + 6) 12 (ρ 4) H ∧ ∀ H1, aat G 0 (b + 6) 12 (up (ρ 4) z v) H1 → H1.size = H.size → (∀ q, q ≠ b + 6 → H1[q]? = H[q]?) → PM G b m (ur ρ 4 (up (ρ 4) z v)) H1 := by
  intro H ⟨h0, h1, h2, h3, h4, h5, h6, h7, h8⟩
  exact ⟨h6, fun H1 e _ hq => ⟨h0.kept (hq _ (by omega)), h1.kept (hq _ (by omega)), h2.kept (hq _ (by omega)), h3.kept (hq _ (by omega)), h4.kept (hq _ (by omega)), h5.kept (hq _ (by omega)), e, h7, ur_rg h8 (up_rg (h8 4) hv)⟩⟩
theorem PM.p3 (hv : -2147483648 ≤ v ∧ v < 2147483648) : ∀ H, PM G b m ρ H → ∃ fs, oat G b 7 fs H ∧ 3 < fs.length ∧ ∀ H1, oat G b 7 (fs.set 3 (vi v)) H1 → H1.size = H.size → (∀ q, q ≠ b → H1[q]? = H[q]?) → PM G b m (ur ρ 5 (up (ρ 5) 0 v)) H1 := by
  intro H ⟨h0, h1, h2, h3, h4, h5, h6, h7, h8⟩
  exact ⟨_, h0, Nat.le_of_ble_eq_true rfl, fun H1 e _ hq => ⟨e, h1.kept (hq _ (by omega)), h2.kept (hq _ (by omega)), h3.kept (hq _ (by omega)), h4.kept (hq _ (by omega)), h5.kept (hq _ (by omega)), h6.kept (hq _ (by omega)), h7, ur_rg h8 (up_rg (h8 5) hv)⟩⟩
theorem PM.p5 (hv : -2147483648 ≤ v ∧ v < 2147483648) : ∀ H, PM G b m ρ H → ∃ fs, oat G b 7 fs H ∧ 5 < fs.length ∧ ∀ H1, oat G b 7 (fs.set 5 (vi v)) H1 → H1.size = H.size → (∀ q, q ≠ b → H1[q]? = H[q]?) → PM G b m (ur ρ 5 (up (ρ 5) 1 v)) H1 := by
  intro H ⟨h0, h1, h2, h3, h4, h5, h6, h7, h8⟩
  exact ⟨_, h0, Nat.le_of_ble_eq_true rfl, fun H1 e _ hq => ⟨e, h1.kept (hq _ (by omega)), h2.kept (hq _ (by omega)), h3.kept (hq _ (by omega)), h4.kept (hq _ (by omega)), h5.kept (hq _ (by omega)), h6.kept (hq _ (by omega)), h7, ur_rg h8 (up_rg (h8 5) hv)⟩⟩
theorem PM.p6 (hv : -2147483648 ≤ v ∧ v < 2147483648) : ∀ H, PM G b m ρ H → ∃ fs, oat G b 7 fs H ∧ 6 < fs.length ∧ ∀ H1, oat G b 7 (fs.set 6 (vi v)) H1 → H1.size = H.size → (∀ q, q ≠ b → H1[q]? = H[q]?) → PM G b m (ur ρ 5 (up (ρ 5) 2 v)) H1 := by
  intro H ⟨h0, h1, h2, h3, h4, h5, h6, h7, h8⟩
  exact ⟨_, h0, Nat.le_of_ble_eq_true rfl, fun H1 e _ hq => ⟨e, h1.kept (hq _ (by omega)), h2.kept (hq _ (by omega)), h3.kept (hq _ (by omega)), h4.kept (hq _ (by omega)), h5.kept (hq _ (by omega)), h6.kept (hq _ (by omega)), h7, ur_rg h8 (up_rg (h8 5) hv)⟩⟩
theorem PM.p7 (hv : -2147483648 ≤ v ∧ v < 2147483648) : ∀ H, PM G b m ρ H → ∃ fs, oat G b 7 fs H ∧ 7 < fs.length ∧ ∀ H1, oat G b 7 (fs.set 7 (vi v)) H1 → H1.size = H.size → (∀ q, q ≠ b → H1[q]? = H[q]?) → PM G b m (ur ρ 5 (up (ρ 5) 3 v)) H1 := by
  intro H ⟨h0, h1, h2, h3, h4, h5, h6, h7, h8⟩
  exact ⟨_, h0, Nat.le_of_ble_eq_true rfl, fun H1 e _ hq => ⟨e, h1.kept (hq _ (by omega)), h2.kept (hq _ (by omega)), h3.kept (hq _ (by omega)), h4.kept (hq _ (by omega)), h5.kept (hq _ (by omega)), h6.kept (hq _ (by omega)), h7, ur_rg h8 (up_rg (h8 5) hv)⟩⟩
theorem PM.p8 (hv : -2147483648 ≤ v ∧ v < 2147483648) : ∀ H, PM G b m ρ H → ∃ fs, oat G b 7 fs H ∧ 8 < fs.length ∧ ∀ H1, oat G b 7 (fs.set 8 (vi v)) H1 → H1.size = H.size → (∀ q, q ≠ b → H1[q]? = H[q]?) → PM G b m (ur ρ 5 (up (ρ 5) 4 v)) H1 := by
  intro H ⟨h0, h1, h2, h3, h4, h5, h6, h7, h8⟩
  exact ⟨_, h0, Nat.le_of_ble_eq_true rfl, fun H1 e _ hq => ⟨e, h1.kept (hq _ (by omega)), h2.kept (hq _ (by omega)), h3.kept (hq _ (by omega)), h4.kept (hq _ (by omega)), h5.kept (hq _ (by omega)), h6.kept (hq _ (by omega)), h7, ur_rg h8 (up_rg (h8 5) hv)⟩⟩
theorem ur_self (ρ : Nat → Int → Int) (i : Nat) : ur ρ i (ρ i) = ρ := by
  funext j
  unfold ur
  split
  · next h => rw [h]
  · rfl
theorem ur_ur (ρ : Nat → Int → Int) (i : Nat) (f g : Int → Int) : ur (ur ρ i f) i g = ur ρ i g := by
  funext j
  unfold ur
  split <;> rfl
theorem PM.b0 {f : Int → Int} : ∀ H, PM G b m (ur ρ 0 f) H → aat G 0 (b + 2) 788 f H ∧ ∀ k, -2147483648 ≤ f k ∧ f k < 2147483648 := fun H h => by
  have := PM.a0 H h
  rwa [ur_eq] at this
theorem PM.t0 {f : Int → Int} (hv : -2147483648 ≤ v ∧ v < 2147483648) : ∀ H, PM G b m (ur ρ 0 f) H → aat G 0 (b + 2) 788 f H ∧ ∀ H1, aat G 0 (b + 2) 788 (up f z v) H1 → H1.size = H.size → (∀ q, q ≠ b + 2 → H1[q]? = H[q]?) → PM G b m (ur ρ 0 (up f z v)) H1 := fun H h => by
  have := PM.s0 (z := z) hv H h
  rwa [ur_eq, ur_ur] at this
theorem PM.b1 {f : Int → Int} : ∀ H, PM G b m (ur ρ 1 f) H → aat G 0 (b + 3) 3152 f H ∧ ∀ k, -2147483648 ≤ f k ∧ f k < 2147483648 := fun H h => by
  have := PM.a1 H h
  rwa [ur_eq] at this
theorem PM.t1 {f : Int → Int} (hv : -2147483648 ≤ v ∧ v < 2147483648) : ∀ H, PM G b m (ur ρ 1 f) H → aat G 0 (b + 3) 3152 f H ∧ ∀ H1, aat G 0 (b + 3) 3152 (up f z v) H1 → H1.size = H.size → (∀ q, q ≠ b + 3 → H1[q]? = H[q]?) → PM G b m (ur ρ 1 (up f z v)) H1 := fun H h => by
  have := PM.s1 (z := z) hv H h
  rwa [ur_eq, ur_ur] at this
theorem PM.b2 {f : Int → Int} : ∀ H, PM G b m (ur ρ 2 f) H → aat G 0 (b + 4) 100 f H ∧ ∀ k, -2147483648 ≤ f k ∧ f k < 2147483648 := fun H h => by
  have := PM.a2 H h
  rwa [ur_eq] at this
theorem PM.t2 {f : Int → Int} (hv : -2147483648 ≤ v ∧ v < 2147483648) : ∀ H, PM G b m (ur ρ 2 f) H → aat G 0 (b + 4) 100 f H ∧ ∀ H1, aat G 0 (b + 4) 100 (up f z v) H1 → H1.size = H.size → (∀ q, q ≠ b + 4 → H1[q]? = H[q]?) → PM G b m (ur ρ 2 (up f z v)) H1 := fun H h => by
  have := PM.s2 (z := z) hv H h
  rwa [ur_eq, ur_ur] at this
theorem PM.b3 {f : Int → Int} : ∀ H, PM G b m (ur ρ 3 f) H → aat G 0 (b + 5) 8 f H ∧ ∀ k, -2147483648 ≤ f k ∧ f k < 2147483648 := fun H h => by
  have := PM.a3 H h
  rwa [ur_eq] at this
theorem PM.t3 {f : Int → Int} (hv : -2147483648 ≤ v ∧ v < 2147483648) : ∀ H, PM G b m (ur ρ 3 f) H → aat G 0 (b + 5) 8 f H ∧ ∀ H1, aat G 0 (b + 5) 8 (up f z v) H1 → H1.size = H.size → (∀ q, q ≠ b + 5 → H1[q]? = H[q]?) → PM G b m (ur ρ 3 (up f z v)) H1 := fun H h => by
  have := PM.s3 (z := z) hv H h
  rwa [ur_eq, ur_ur] at this
theorem PM.b4 {f : Int → Int} : ∀ H, PM G b m (ur ρ 4 f) H → aat G 0 (b + 6) 12 f H ∧ ∀ k, -2147483648 ≤ f k ∧ f k < 2147483648 := fun H h => by
  have := PM.a4 H h
  rwa [ur_eq] at this
theorem PM.t4 {f : Int → Int} (hv : -2147483648 ≤ v ∧ v < 2147483648) : ∀ H, PM G b m (ur ρ 4 f) H → aat G 0 (b + 6) 12 f H ∧ ∀ H1, aat G 0 (b + 6) 12 (up f z v) H1 → H1.size = H.size → (∀ q, q ≠ b + 6 → H1[q]? = H[q]?) → PM G b m (ur ρ 4 (up f z v)) H1 := fun H h => by
  have := PM.s4 (z := z) hv H h
  rwa [ur_eq, ur_ur] at this
theorem PM.h3 {f : Int → Int} : ∀ H, PM G b m (ur ρ 5 f) H → ∃ fs, oat G b 7 fs H ∧ fs[3]? = some (vi (f 0)) ∧ (-2147483648 ≤ f 0 ∧ f 0 < 2147483648) := fun H h => by
  have := PM.g3 H h
  rwa [ur_eq] at this
theorem PM.q3 {f : Int → Int} (hv : -2147483648 ≤ v ∧ v < 2147483648) : ∀ H, PM G b m (ur ρ 5 f) H → ∃ fs, oat G b 7 fs H ∧ 3 < fs.length ∧ ∀ H1, oat G b 7 (fs.set 3 (vi v)) H1 → H1.size = H.size → (∀ q, q ≠ b → H1[q]? = H[q]?) → PM G b m (ur ρ 5 (up f 0 v)) H1 := fun H h => by
  have := PM.p3 hv H h
  rwa [ur_eq, ur_ur] at this
theorem PM.h5 {f : Int → Int} : ∀ H, PM G b m (ur ρ 5 f) H → ∃ fs, oat G b 7 fs H ∧ fs[5]? = some (vi (f 1)) ∧ (-2147483648 ≤ f 1 ∧ f 1 < 2147483648) := fun H h => by
  have := PM.g5 H h
  rwa [ur_eq] at this
theorem PM.q5 {f : Int → Int} (hv : -2147483648 ≤ v ∧ v < 2147483648) : ∀ H, PM G b m (ur ρ 5 f) H → ∃ fs, oat G b 7 fs H ∧ 5 < fs.length ∧ ∀ H1, oat G b 7 (fs.set 5 (vi v)) H1 → H1.size = H.size → (∀ q, q ≠ b → H1[q]? = H[q]?) → PM G b m (ur ρ 5 (up f 1 v)) H1 := fun H h => by
  have := PM.p5 hv H h
  rwa [ur_eq, ur_ur] at this
theorem PM.h6 {f : Int → Int} : ∀ H, PM G b m (ur ρ 5 f) H → ∃ fs, oat G b 7 fs H ∧ fs[6]? = some (vi (f 2)) ∧ (-2147483648 ≤ f 2 ∧ f 2 < 2147483648) := fun H h => by
  have := PM.g6 H h
  rwa [ur_eq] at this
theorem PM.q6 {f : Int → Int} (hv : -2147483648 ≤ v ∧ v < 2147483648) : ∀ H, PM G b m (ur ρ 5 f) H → ∃ fs, oat G b 7 fs H ∧ 6 < fs.length ∧ ∀ H1, oat G b 7 (fs.set 6 (vi v)) H1 → H1.size = H.size → (∀ q, q ≠ b → H1[q]? = H[q]?) → PM G b m (ur ρ 5 (up f 2 v)) H1 := fun H h => by
  have := PM.p6 hv H h
  rwa [ur_eq, ur_ur] at this
theorem PM.h7 {f : Int → Int} : ∀ H, PM G b m (ur ρ 5 f) H → ∃ fs, oat G b 7 fs H ∧ fs[7]? = some (vi (f 3)) ∧ (-2147483648 ≤ f 3 ∧ f 3 < 2147483648) := fun H h => by
  have := PM.g7 H h
  rwa [ur_eq] at this
theorem PM.q7 {f : Int → Int} (hv : -2147483648 ≤ v ∧ v < 2147483648) : ∀ H, PM G b m (ur ρ 5 f) H → ∃ fs, oat G b 7 fs H ∧ 7 < fs.length ∧ ∀ H1, oat G b 7 (fs.set 7 (vi v)) H1 → H1.size = H.size → (∀ q, q ≠ b → H1[q]? = H[q]?) → PM G b m (ur ρ 5 (up f 3 v)) H1 := fun H h => by
  have := PM.p7 hv H h
  rwa [ur_eq, ur_ur] at this
theorem PM.h8 {f : Int → Int} : ∀ H, PM G b m (ur ρ 5 f) H → ∃ fs, oat G b 7 fs H ∧ fs[8]? = some (vi (f 4)) ∧ (-2147483648 ≤ f 4 ∧ f 4 < 2147483648) := fun H h => by
  have := PM.g8 H h
  rwa [ur_eq] at this
theorem PM.q8 {f : Int → Int} (hv : -2147483648 ≤ v ∧ v < 2147483648) : ∀ H, PM G b m (ur ρ 5 f) H → ∃ fs, oat G b 7 fs H ∧ 8 < fs.length ∧ ∀ H1, oat G b 7 (fs.set 8 (vi v)) H1 → H1.size = H.size → (∀ q, q ≠ b → H1[q]? = H[q]?) → PM G b m (ur ρ 5 (up f 4 v)) H1 := fun H h => by
  have := PM.p8 hv H h
  rwa [ur_eq, ur_ur] at this
end PMS
theorem x_us {Γ : xE} {G : xG} {b : Nat} {m : Int → Int} {ρ : Nat → Int → Int} {kc ks pc : Nat} {L : List (Nat × Value)} {st : List Value} (i : Nat) (k : XJ Γ kc ks (PM G b m (ur ρ i (ρ i))) pc L st) : XJ Γ kc ks (PM G b m ρ) pc L st := by
  rwa [ur_self] at k
theorem x_retO {Γ : xE} {G : xG} {cc : ByteArray} {own : String} {nL : Nat} {rm : Room} {A : Nat → Prop} {kc ks pc b : Nat} {L : List (Nat × Value)} {nm : String} {o : Int × (Int → Int) × (Nat → Int → Int)} {z : Int} {m' : Int → Int} {ρ' : Nat → Int → Int} (B : XB Γ G cc own nL rm A) (R : XR Γ nm (some .int) kc ks (xQ (pI o.1 (PM G b o.2.1 o.2.2)) A)) (d : decode cc pc = .ok (.ireturn, 1)) (he : o = (z, m', ρ')) (hz : -2147483648 ≤ z ∧ z < 2147483648) : XJ Γ kc ks (PM G b m' ρ') pc L [vi z] := by
  subst he
  exact x_retI B R d rfl hz (fun H h => h)
-- the leaves
theorem c_X7_in {G : xG} {l : Launch} {P : Heap → Prop} {A : Nat → Prop} {v x y : Int} (h1 : -2147483648 ≤ v ∧ v < 2147483648) (h2 : -2147483648 ≤ x ∧ x < 2147483648) (h3 : -2147483648 ≤ y ∧ y < 2147483648) : CT G l yX7_in cX7_in 3 (some .boolean) ({ frames := 0, cells := 0, slots := 0, locals := 0 } : Room) 0 0 [vi v, vi x, vi y] P (pZ (x ≤ v ∧ v ≤ y) P) A := by
  refine x_met1 (own := RX7) (nm := "in") (L := [(0, vi v), (1, vi x), (2, vi y)]) (by decide) rfl rfl (fun _ => rfl) (Nat.le_of_ble_eq_true rfl) rfl rfl ?_
  intro Γ B R
  refine x_iload_n B dX7_in_0 rfl ?_
  refine x_iload_n B dX7_in_1 rfl ?_
  refine x_icmp_lt (tgt := 14) B dX7_in_2 (by decide) (by omega) (by omega) (fun c2 => ?_) (fun c2 => ?_)
  · refine x_iconst B dX7_in_14 ?_
    exact x_retZ B R dX7_in_15 ((bz_f (by omega)).symm) (fun H h => by exact h)
  · refine x_iload_n B dX7_in_5 rfl ?_
    refine x_iload_n B dX7_in_6 rfl ?_
    refine x_icmp_gt (tgt := 14) B dX7_in_7 (by decide) (by omega) (by omega) (fun c7 => ?_) (fun c7 => ?_)
    · refine x_iconst B dX7_in_14 ?_
      exact x_retZ B R dX7_in_15 ((bz_f (by omega)).symm) (fun H h => by exact h)
    · refine x_iconst B dX7_in_10 ?_
      refine x_goto (tgt := 15) B dX7_in_11 (by decide) ?_
      exact x_retZ B R dX7_in_15 ((bz_t (by omega)).symm) (fun H h => by exact h)
theorem c_X7_of {G : xG} {l : Launch} {b : Nat} {m : Int → Int} {ρ : Nat → Int → Int} {x w : Int} (h1 : 0 ≤ 548 + 10 * x + w ∧ 548 + 10 * x + w < 788) : CT G l yX7_of cX7_of 3 (some .int) ({ frames := 0, cells := 0, slots := 0, locals := 0 } : Room) 0 0 [.ref b, vi x, vi w] (PM G b m ρ) (pI (m (548 + 10 * x + w)) (PM G b m ρ)) (AM b) := by
  refine x_met1 (own := RX7) (nm := "of") (L := [(0, .ref b), (1, vi x), (2, vi w)]) (by decide) rfl rfl (fun _ => rfl) (Nat.le_of_ble_eq_true rfl) rfl rfl ?_
  intro Γ B R
  refine x_aload_n B dX7_of_0 rfl ?_
  refine x_get B fgX7_7 dX7_of_1 (fun _ h => ⟨_, PM.o h, rfl⟩) ?_
  refine x_sipush B dX7_of_4 (by decide) ?_
  refine x_bipush B dX7_of_7 (by decide) ?_
  refine x_iload_n B dX7_of_9 rfl ?_
  refine x_imul B dX7_of_10 ?_
  refine x_iadd B dX7_of_11 ?_
  refine x_iload_n B dX7_of_12 rfl ?_
  refine x_iadd B dX7_of_13 ?_
  refine x_ialdR B dX7_of_14 (by omega) (by decide) PM.am (fun r14 => ?_)
  exact x_retI B R dX7_of_15 (by first | rfl | omega) (by omega) (fun H h => by exact h)
theorem c_X7_ofUnit {G : xG} {l : Launch} {b : Nat} {m : Int → Int} {ρ : Nat → Int → Int} {x w : Int} (h1 : 0 ≤ 5 + 6 * x + w ∧ 5 + 6 * x + w < 788) : CT G l yX7_ofUnit cX7_ofUnit 3 (some .int) ({ frames := 0, cells := 0, slots := 0, locals := 0 } : Room) 0 0 [.ref b, vi x, vi w] (PM G b m ρ) (pI (m (5 + 6 * x + w)) (PM G b m ρ)) (AM b) := by
  refine x_met1 (own := RX7) (nm := "ofUnit") (L := [(0, .ref b), (1, vi x), (2, vi w)]) (by decide) rfl rfl (fun _ => rfl) (Nat.le_of_ble_eq_true rfl) rfl rfl ?_
  intro Γ B R
  refine x_aload_n B dX7_ofUnit_0 rfl ?_
  refine x_get B fgX7_7 dX7_ofUnit_1 (fun _ h => ⟨_, PM.o h, rfl⟩) ?_
  refine x_iconst B dX7_ofUnit_4 ?_
  refine x_bipush B dX7_ofUnit_5 (by decide) ?_
  refine x_iload_n B dX7_ofUnit_7 rfl ?_
  refine x_imul B dX7_ofUnit_8 ?_
  refine x_iadd B dX7_ofUnit_9 ?_
  refine x_iload_n B dX7_ofUnit_10 rfl ?_
  refine x_iadd B dX7_ofUnit_11 ?_
  refine x_ialdR B dX7_ofUnit_12 (by omega) (by decide) PM.am (fun r12 => ?_)
  exact x_retI B R dX7_ofUnit_13 (by first | rfl | omega) (by omega) (fun H h => by exact h)
theorem c_X7_put {G : xG} {l : Launch} {b : Nat} {m : Int → Int} {ρ : Nat → Int → Int} {x w v : Int} (h1 : 0 ≤ 548 + 10 * x + w ∧ 548 + 10 * x + w < 788) (h2 : -2147483648 ≤ v ∧ v < 2147483648) : CT G l yX7_put cX7_put 4 none ({ frames := 0, cells := 0, slots := 0, locals := 0 } : Room) 0 0 [.ref b, vi x, vi w, vi v] (PM G b m ρ) (pV (PM G b (up m (548 + 10 * x + w) v) ρ)) (AM b) := by
  refine x_met1 (own := RX7) (nm := "put") (L := [(0, .ref b), (1, vi x), (2, vi w), (3, vi v)]) (by decide) rfl rfl (fun _ => rfl) (Nat.le_of_ble_eq_true rfl) rfl rfl ?_
  intro Γ B R
  refine x_aload_n B dX7_put_0 rfl ?_
  refine x_get B fgX7_7 dX7_put_1 (fun _ h => ⟨_, PM.o h, rfl⟩) ?_
  refine x_sipush B dX7_put_4 (by decide) ?_
  refine x_bipush B dX7_put_7 (by decide) ?_
  refine x_iload_n B dX7_put_9 rfl ?_
  refine x_imul B dX7_put_10 ?_
  refine x_iadd B dX7_put_11 ?_
  refine x_iload_n B dX7_put_12 rfl ?_
  refine x_iadd B dX7_put_13 ?_
  refine x_iload_n B dX7_put_14 rfl ?_
  refine x_iast B dX7_put_15 (by omega) (by decide) (by unfold AM; omega) (PM.sm (by omega)) ?_
  exact x_retV B R dX7_put_16 (fun H h => by exact h)
theorem c_X7_putUnit {G : xG} {l : Launch} {b : Nat} {m : Int → Int} {ρ : Nat → Int → Int} {x w v : Int} (h1 : 0 ≤ 5 + 6 * x + w ∧ 5 + 6 * x + w < 788) (h2 : -2147483648 ≤ v ∧ v < 2147483648) : CT G l yX7_putUnit cX7_putUnit 4 none ({ frames := 0, cells := 0, slots := 0, locals := 0 } : Room) 0 0 [.ref b, vi x, vi w, vi v] (PM G b m ρ) (pV (PM G b (up m (5 + 6 * x + w) v) ρ)) (AM b) := by
  refine x_met1 (own := RX7) (nm := "putUnit") (L := [(0, .ref b), (1, vi x), (2, vi w), (3, vi v)]) (by decide) rfl rfl (fun _ => rfl) (Nat.le_of_ble_eq_true rfl) rfl rfl ?_
  intro Γ B R
  refine x_aload_n B dX7_putUnit_0 rfl ?_
  refine x_get B fgX7_7 dX7_putUnit_1 (fun _ h => ⟨_, PM.o h, rfl⟩) ?_
  refine x_iconst B dX7_putUnit_4 ?_
  refine x_bipush B dX7_putUnit_5 (by decide) ?_
  refine x_iload_n B dX7_putUnit_7 rfl ?_
  refine x_imul B dX7_putUnit_8 ?_
  refine x_iadd B dX7_putUnit_9 ?_
  refine x_iload_n B dX7_putUnit_10 rfl ?_
  refine x_iadd B dX7_putUnit_11 ?_
  refine x_iload_n B dX7_putUnit_12 rfl ?_
  refine x_iast B dX7_putUnit_13 (by omega) (by decide) (by unfold AM; omega) (PM.sm (by omega)) ?_
  exact x_retV B R dX7_putUnit_14 (fun H h => by exact h)
theorem c_X7_isUnit {G : xG} {l : Launch} {b : Nat} {m : Int → Int} {ρ : Nat → Int → Int} {x : Int} (h1 : 0 ≤ m 2 ∧ m 2 ≤ 8) (h2 : -2147483648 ≤ x ∧ x < 2147483648) : CT G l yX7_isUnit cX7_isUnit 2 (some .boolean) ({ frames := 1, cells := 0, slots := 0, locals := 22 } : Room) 0 0 [.ref b, vi x] (PM G b m ρ) (pZ (0 ≤ x ∧ x ≤ m 2 - 1) (PM G b m ρ)) (AM b) := by
  refine x_met1 (own := RX7) (nm := "isUnit") (L := [(0, .ref b), (1, vi x)]) (by decide) rfl rfl (fun _ => rfl) (Nat.le_of_ble_eq_true rfl) rfl rfl ?_
  intro Γ B R
  refine x_iload_n B dX7_isUnit_0 rfl ?_
  refine x_iconst B dX7_isUnit_1 ?_
  refine x_aload_n B dX7_isUnit_2 rfl ?_
  refine x_get B fgX7_7 dX7_isUnit_3 (fun _ h => ⟨_, PM.o h, rfl⟩) ?_
  refine x_iconst B dX7_isUnit_6 ?_
  refine x_ialdR B dX7_isUnit_7 (by omega) (by decide) PM.am (fun r7 => ?_)
  refine x_iconst B dX7_isUnit_8 ?_
  refine x_isub B dX7_isUnit_9 ?_
  refine x_sZ B msX7_36 (fun l => c_X7_in (by omega) (by omega) (by omega)) dX7_isUnit_10 rfl rfl (by decide) (by decide) (Nat.le_of_ble_eq_true rfl) ?_
  exact x_retZ B R dX7_isUnit_13 (by rfl) (fun H h => by exact h)
theorem c_X7_isBatch {G : xG} {l : Launch} {b : Nat} {m : Int → Int} {ρ : Nat → Int → Int} {x : Int} (h1 : 0 ≤ m 3 ∧ m 3 ≤ 12) (h2 : -2147483648 ≤ x ∧ x < 2147483648) : CT G l yX7_isBatch cX7_isBatch 2 (some .boolean) ({ frames := 1, cells := 0, slots := 0, locals := 22 } : Room) 0 0 [.ref b, vi x] (PM G b m ρ) (pZ (0 ≤ x ∧ x ≤ m 3 - 1) (PM G b m ρ)) (AM b) := by
  refine x_met1 (own := RX7) (nm := "isBatch") (L := [(0, .ref b), (1, vi x)]) (by decide) rfl rfl (fun _ => rfl) (Nat.le_of_ble_eq_true rfl) rfl rfl ?_
  intro Γ B R
  refine x_iload_n B dX7_isBatch_0 rfl ?_
  refine x_iconst B dX7_isBatch_1 ?_
  refine x_aload_n B dX7_isBatch_2 rfl ?_
  refine x_get B fgX7_7 dX7_isBatch_3 (fun _ h => ⟨_, PM.o h, rfl⟩) ?_
  refine x_iconst B dX7_isBatch_6 ?_
  refine x_ialdR B dX7_isBatch_7 (by omega) (by decide) PM.am (fun r7 => ?_)
  refine x_iconst B dX7_isBatch_8 ?_
  refine x_isub B dX7_isBatch_9 ?_
  refine x_sZ B msX7_36 (fun l => c_X7_in (by omega) (by omega) (by omega)) dX7_isBatch_10 rfl rfl (by decide) (by decide) (Nat.le_of_ble_eq_true rfl) ?_
  exact x_retZ B R dX7_isBatch_13 (by rfl) (fun H h => by exact h)
theorem c_X7_isRecipe {G : xG} {l : Launch} {P : Heap → Prop} {A : Nat → Prop} {x : Int} (h1 : -2147483648 ≤ x ∧ x < 2147483648) : CT G l yX7_isRecipe cX7_isRecipe 1 (some .boolean) ({ frames := 1, cells := 0, slots := 0, locals := 22 } : Room) 0 0 [vi x] P (pZ (0 ≤ x ∧ x ≤ 5) P) A := by
  refine x_met1 (own := RX7) (nm := "isRecipe") (L := [(0, vi x)]) (by decide) rfl rfl (fun _ => rfl) (Nat.le_of_ble_eq_true rfl) rfl rfl ?_
  intro Γ B R
  refine x_iload_n B dX7_isRecipe_0 rfl ?_
  refine x_iconst B dX7_isRecipe_1 ?_
  refine x_iconst B dX7_isRecipe_2 ?_
  refine x_sZ B msX7_36 (fun l => c_X7_in (by omega) (by omega) (by omega)) dX7_isRecipe_3 rfl rfl (by decide) (by decide) (Nat.le_of_ble_eq_true rfl) ?_
  exact x_retZ B R dX7_isRecipe_6 (by rfl) (fun H h => by exact h)
theorem c_X7_isFree {G : xG} {l : Launch} {b : Nat} {m : Int → Int} {ρ : Nat → Int → Int} {x : Int} (h1 : 0 ≤ x ∧ x < 8) : CT G l yX7_isFree cX7_isFree 2 (some .boolean) ({ frames := 1, cells := 0, slots := 0, locals := 22 } : Room) 0 0 [.ref b, vi x] (PM G b m ρ) (pZ (m (5 + 6 * x + 2) = -1 ∧ m (5 + 6 * x + 3) = 0 ∧ m (5 + 6 * x + 4) = 0) (PM G b m ρ)) (AM b) := by
  refine x_met1 (own := RX7) (nm := "isFree") (L := [(0, .ref b), (1, vi x)]) (by decide) rfl rfl (fun _ => rfl) (Nat.le_of_ble_eq_true rfl) rfl rfl ?_
  intro Γ B R
  refine x_aload_n B dX7_isFree_0 rfl ?_
  refine x_iload_n B dX7_isFree_1 rfl ?_
  refine x_iconst B dX7_isFree_2 ?_
  refine x_mV B mvX7_51 (fun l => c_X7_ofUnit (by omega)) dX7_isFree_3 rfl rfl (by decide) (by decide) (Nat.le_of_ble_eq_true rfl) PM.rv (fun r3 => ?_)
  refine x_iconst B dX7_isFree_6 ?_
  refine x_icmp_ne (tgt := 32) B dX7_isFree_7 (by decide) (by omega) (by omega) (fun c7 => ?_) (fun c7 => ?_)
  · refine x_iconst B dX7_isFree_32 ?_
    exact x_retZ B R dX7_isFree_33 ((bz_f (by omega)).symm) (fun H h => by exact h)
  · refine x_aload_n B dX7_isFree_10 rfl ?_
    refine x_iload_n B dX7_isFree_11 rfl ?_
    refine x_iconst B dX7_isFree_12 ?_
    refine x_mV B mvX7_51 (fun l => c_X7_ofUnit (by omega)) dX7_isFree_13 rfl rfl (by decide) (by decide) (Nat.le_of_ble_eq_true rfl) PM.rv (fun r13 => ?_)
    refine x_if_ne (tgt := 32) B dX7_isFree_16 (by decide) (by omega) (fun c16 => ?_) (fun c16 => ?_)
    · refine x_iconst B dX7_isFree_32 ?_
      exact x_retZ B R dX7_isFree_33 ((bz_f (by omega)).symm) (fun H h => by exact h)
    · refine x_aload_n B dX7_isFree_19 rfl ?_
      refine x_iload_n B dX7_isFree_20 rfl ?_
      refine x_iconst B dX7_isFree_21 ?_
      refine x_mV B mvX7_51 (fun l => c_X7_ofUnit (by omega)) dX7_isFree_22 rfl rfl (by decide) (by decide) (Nat.le_of_ble_eq_true rfl) PM.rv (fun r22 => ?_)
      refine x_if_ne (tgt := 32) B dX7_isFree_25 (by decide) (by omega) (fun c25 => ?_) (fun c25 => ?_)
      · refine x_iconst B dX7_isFree_32 ?_
        exact x_retZ B R dX7_isFree_33 ((bz_f (by omega)).symm) (fun H h => by exact h)
      · refine x_iconst B dX7_isFree_28 ?_
        refine x_goto (tgt := 33) B dX7_isFree_29 (by decide) ?_
        exact x_retZ B R dX7_isFree_33 ((bz_t (by omega)).symm) (fun H h => by exact h)
theorem c_X7_isActive {G : xG} {l : Launch} {b : Nat} {m : Int → Int} {ρ : Nat → Int → Int} {x : Int} (h1 : 0 ≤ x ∧ x < 12) : CT G l yX7_isActive cX7_isActive 2 (some .boolean) ({ frames := 1, cells := 0, slots := 0, locals := 22 } : Room) 0 0 [.ref b, vi x] (PM G b m ρ) (pZ (m (548 + 10 * x + 5) = 1 ∨ m (548 + 10 * x + 5) = 3) (PM G b m ρ)) (AM b) := by
  refine x_met1 (own := RX7) (nm := "isActive") (L := [(0, .ref b), (1, vi x)]) (by decide) rfl rfl (fun _ => rfl) (Nat.le_of_ble_eq_true rfl) rfl rfl ?_
  intro Γ B R
  refine x_aload_n B dX7_isActive_0 rfl ?_
  refine x_iload_n B dX7_isActive_1 rfl ?_
  refine x_iconst B dX7_isActive_2 ?_
  refine x_mV B mvX7_40 (fun l => c_X7_of (by omega)) dX7_isActive_3 rfl rfl (by decide) (by decide) (Nat.le_of_ble_eq_true rfl) PM.rv (fun r3 => ?_)
  refine x_iconst B dX7_isActive_6 ?_
  refine x_icmp_eq (tgt := 20) B dX7_isActive_7 (by decide) (by omega) (by omega) (fun c7 => ?_) (fun c7 => ?_)
  · refine x_iconst B dX7_isActive_20 ?_
    refine x_goto (tgt := 25) B dX7_isActive_21 (by decide) ?_
    exact x_retZ B R dX7_isActive_25 ((bz_t (by omega)).symm) (fun H h => by exact h)
  · refine x_aload_n B dX7_isActive_10 rfl ?_
    refine x_iload_n B dX7_isActive_11 rfl ?_
    refine x_iconst B dX7_isActive_12 ?_
    refine x_mV B mvX7_40 (fun l => c_X7_of (by omega)) dX7_isActive_13 rfl rfl (by decide) (by decide) (Nat.le_of_ble_eq_true rfl) PM.rv (fun r13 => ?_)
    refine x_iconst B dX7_isActive_16 ?_
    refine x_icmp_ne (tgt := 24) B dX7_isActive_17 (by decide) (by omega) (by omega) (fun c17 => ?_) (fun c17 => ?_)
    · refine x_iconst B dX7_isActive_24 ?_
      exact x_retZ B R dX7_isActive_25 ((bz_f (by omega)).symm) (fun H h => by exact h)
    · refine x_iconst B dX7_isActive_20 ?_
      refine x_goto (tgt := 25) B dX7_isActive_21 (by decide) ?_
      exact x_retZ B R dX7_isActive_25 ((bz_t (by omega)).symm) (fun H h => by exact h)
theorem c_X7_phasesOf {G : xG} {l : Launch} {b : Nat} {m : Int → Int} {ρ : Nat → Int → Int} {r v : Int} (h1 : 0 ≤ r ∧ r < 6) (h2 : 1 ≤ v ∧ v ≤ 9) : CT G l yX7_phasesOf cX7_phasesOf 3 (some .int) ({ frames := 0, cells := 0, slots := 0, locals := 0 } : Room) 0 0 [.ref b, vi r, vi v] (PM G b m ρ) (pI (m (62 + 9 * r + v - 1)) (PM G b m ρ)) (AM b) := by
  refine x_met1 (own := RX7) (nm := "phasesOf") (L := [(0, .ref b), (1, vi r), (2, vi v)]) (by decide) rfl rfl (fun _ => rfl) (Nat.le_of_ble_eq_true rfl) rfl rfl ?_
  intro Γ B R
  refine x_aload_n B dX7_phasesOf_0 rfl ?_
  refine x_get B fgX7_7 dX7_phasesOf_1 (fun _ h => ⟨_, PM.o h, rfl⟩) ?_
  refine x_bipush B dX7_phasesOf_4 (by decide) ?_
  refine x_bipush B dX7_phasesOf_6 (by decide) ?_
  refine x_iload_n B dX7_phasesOf_8 rfl ?_
  refine x_imul B dX7_phasesOf_9 ?_
  refine x_iadd B dX7_phasesOf_10 ?_
  refine x_iload_n B dX7_phasesOf_11 rfl ?_
  refine x_iadd B dX7_phasesOf_12 ?_
  refine x_iconst B dX7_phasesOf_13 ?_
  refine x_isub B dX7_phasesOf_14 ?_
  refine x_ialdR B dX7_phasesOf_15 (by omega) (by decide) PM.am (fun r15 => ?_)
  exact x_retI B R dX7_phasesOf_16 (by first | rfl | omega) (by omega) (fun H h => by exact h)
theorem c_X7_phaseIn {G : xG} {l : Launch} {b : Nat} {m : Int → Int} {ρ : Nat → Int → Int} {r v k : Int} (h1 : 0 ≤ r ∧ r < 6) (h2 : 1 ≤ v ∧ v ≤ 9) (h3 : 0 ≤ k ∧ k < 8) : CT G l yX7_phaseIn cX7_phaseIn 4 (some .int) ({ frames := 0, cells := 0, slots := 0, locals := 0 } : Room) 0 0 [.ref b, vi r, vi v, vi k] (PM G b m ρ) (pI (m (116 + 8 * (9 * r + v - 1) + k)) (PM G b m ρ)) (AM b) := by
  refine x_met1 (own := RX7) (nm := "phaseIn") (L := [(0, .ref b), (1, vi r), (2, vi v), (3, vi k)]) (by decide) rfl rfl (fun _ => rfl) (Nat.le_of_ble_eq_true rfl) rfl rfl ?_
  intro Γ B R
  refine x_aload_n B dX7_phaseIn_0 rfl ?_
  refine x_get B fgX7_7 dX7_phaseIn_1 (fun _ h => ⟨_, PM.o h, rfl⟩) ?_
  refine x_bipush B dX7_phaseIn_4 (by decide) ?_
  refine x_bipush B dX7_phaseIn_6 (by decide) ?_
  refine x_bipush B dX7_phaseIn_8 (by decide) ?_
  refine x_iload_n B dX7_phaseIn_10 rfl ?_
  refine x_imul B dX7_phaseIn_11 ?_
  refine x_iload_n B dX7_phaseIn_12 rfl ?_
  refine x_iadd B dX7_phaseIn_13 ?_
  refine x_iconst B dX7_phaseIn_14 ?_
  refine x_isub B dX7_phaseIn_15 ?_
  refine x_imul B dX7_phaseIn_16 ?_
  refine x_iadd B dX7_phaseIn_17 ?_
  refine x_iload_n B dX7_phaseIn_18 rfl ?_
  refine x_iadd B dX7_phaseIn_19 ?_
  refine x_ialdR B dX7_phaseIn_20 (by omega) (by decide) PM.am (fun r20 => ?_)
  exact x_retI B R dX7_phaseIn_21 (by first | rfl | omega) (by omega) (fun H h => by exact h)
end
section
/-! ===== what the reference does to its memory ===== -/
/-- how many of the first n batches have the state st -/
def cntB (m : Int → Int) (st : Int) : Nat → Int
  | 0 => 0
  | n + 1 => cntB m st n + (if m (548 + 10 * (n : Int) + 5) = st then 1 else 0)
theorem cntB_rg (m : Int → Int) (st : Int) : ∀ n : Nat, 0 ≤ cntB m st n ∧ cntB m st n ≤ n
  | 0 => by simp [cntB]
  | n + 1 => by
    have := cntB_rg m st n
    unfold cntB
    split <;> omega
theorem cntB_s {m : Int → Int} {st i : Int} (h : 0 ≤ i) : cntB m st (i + 1).toNat = cntB m st i.toNat + (if m (548 + 10 * i + 5) = st then 1 else 0) := by
  have e : (i + 1).toNat = i.toNat + 1 := by omega
  have e2 : ((i.toNat : Nat) : Int) = i := by omega
  rw [e, cntB, e2]
/-- the sum of a number of the first n units -/
def sumU (m : Int → Int) (w : Int) : Nat → Int
  | 0 => 0
  | n + 1 => sumU m w n + m (5 + 6 * (n : Int) + w)
theorem sumU_s {m : Int → Int} {w i : Int} (h : 0 ≤ i) : sumU m w (i + 1).toNat = sumU m w i.toNat + m (5 + 6 * i + w) := by
  have e : (i + 1).toNat = i.toNat + 1 := by omega
  have e2 : ((i.toNat : Nat) : Int) = i := by omega
  rw [e, sumU, e2]
/-- how many of the first n satisfy p -/
def cntP (p : Int → Prop) [DecidablePred p] : Nat → Int
  | 0 => 0
  | n + 1 => cntP p n + (if p (n : Int) then 1 else 0)
theorem cntP_rg (p : Int → Prop) [DecidablePred p] : ∀ n : Nat, 0 ≤ cntP p n ∧ cntP p n ≤ n
  | 0 => by simp [cntP]
  | n + 1 => by
    have := cntP_rg p n
    unfold cntP
    split <;> omega
theorem cntP_s {p : Int → Prop} [DecidablePred p] {i : Int} (h : 0 ≤ i) : cntP p (i + 1).toNat = cntP p i.toNat + (if p i then 1 else 0) := by
  have e : (i + 1).toNat = i.toNat + 1 := by omega
  have e2 : ((i.toNat : Nat) : Int) = i := by omega
  rw [e, cntP, e2]
theorem c_X7_many {G : xG} {l : Launch} {b : Nat} {m : Int → Int} {ρ : Nat → Int → Int} {x : Int} (h1 : 0 ≤ m 3 ∧ m 3 ≤ 12) (h2 : -2147483648 ≤ x ∧ x < 2147483648) : CT G l yX7_many cX7_many 4 (some .int) ({ frames := 1, cells := 0, slots := 0, locals := 22 } : Room) 0 0 [.ref b, vi x] (PM G b m ρ) (pI (cntB m x (m 3).toNat) (PM G b m ρ)) (AM b) := by
  refine x_met1 (own := RX7) (nm := "many") (L := [(0, .ref b), (1, vi x)]) (by decide) rfl rfl (fun _ => rfl) (Nat.le_of_ble_eq_true rfl) rfl rfl ?_
  intro Γ B R
  have loop : ∀ (n : Nat) (i acc : Int), acc = cntB m x i.toNat → 0 ≤ i → i ≤ m 3 → m 3 - i < n → XJ Γ 0 0 (PM G b m ρ) 4 [(0, .ref b), (1, vi x), (2, vi acc), (3, vi i)] [] := by
    intro n
    induction n with
    | zero => intro i acc _ _ _ _; omega
    | succ n ih =>
      intro i acc ha hi0 hi1 hn
      have hb := cntB_rg m x i.toNat
      refine x_iload_n B dX7_many_4 rfl ?_
      refine x_aload_n B dX7_many_5 rfl ?_
      refine x_get B fgX7_7 dX7_many_6 (fun _ h => ⟨_, PM.o h, rfl⟩) ?_
      refine x_iconst B dX7_many_9 ?_
      refine x_ialdR B dX7_many_10 (by omega) (by decide) PM.am (fun r10 => ?_)
      refine x_icmp_ge (tgt := 38) B dX7_many_11 (by decide) (by omega) (by omega) (fun c11 => ?_) (fun c11 => ?_)
      · refine x_iload_n B dX7_many_38 rfl ?_
        exact x_retI B R dX7_many_39 (by rw [ha]; congr 2; omega) (by rw [show (m 3).toNat = i.toNat by omega]; omega) (fun H h => by exact h)
      · refine x_iload_n B dX7_many_14 rfl ?_
        refine x_aload_n B dX7_many_15 rfl ?_
        refine x_iload_n B dX7_many_16 rfl ?_
        refine x_iconst B dX7_many_17 ?_
        refine x_mV B mvX7_40 (fun l => c_X7_of (by omega)) dX7_many_18 rfl rfl (by decide) (by decide) (Nat.le_of_ble_eq_true rfl) PM.rv (fun r18 => ?_)
        refine x_iload_n B dX7_many_21 rfl ?_
        refine x_icmp_ne (tgt := 29) B dX7_many_22 (by decide) (by omega) (by omega) (fun c22 => ?_) (fun c22 => ?_)
        · refine x_iconst B dX7_many_29 ?_
          refine x_iadd B dX7_many_30 ?_
          refine x_istore_n B dX7_many_31 (by decide) ?_
          refine x_iinc B dX7_many_32 rfl (by decide) ?_
          refine x_goto (tgt := 4) B dX7_many_35 (by decide) ?_
          exact ih (i + 1) _ (by rw [cntB_s hi0, ha]; simp [*]) (by omega) (by omega) (by omega)
        · refine x_iconst B dX7_many_25 ?_
          refine x_goto (tgt := 30) B dX7_many_26 (by decide) ?_
          refine x_iadd B dX7_many_30 ?_
          refine x_istore_n B dX7_many_31 (by decide) ?_
          refine x_iinc B dX7_many_32 rfl (by decide) ?_
          refine x_goto (tgt := 4) B dX7_many_35 (by decide) ?_
          exact ih (i + 1) _ (by rw [cntB_s hi0, ha]; simp [*]) (by omega) (by omega) (by omega)
  refine x_iconst B dX7_many_0 ?_
  refine x_istore_n B dX7_many_1 (by decide) ?_
  refine x_iconst B dX7_many_2 ?_
  refine x_istore_n B dX7_many_3 (by decide) ?_
  exact loop 13 0 0 rfl (by omega) (by omega) (by omega)
theorem c_X7_broken {G : xG} {l : Launch} {b : Nat} {m : Int → Int} {ρ : Nat → Int → Int} (h1 : 0 ≤ m 2 ∧ m 2 ≤ 8) (h2 : -2147483648 ≤ sumU m 3 (m 2).toNat ∧ sumU m 3 (m 2).toNat < 2147483648) : CT G l yX7_broken cX7_broken 3 (some .int) ({ frames := 1, cells := 0, slots := 0, locals := 22 } : Room) 0 0 [.ref b] (PM G b m ρ) (pI (sumU m 3 (m 2).toNat) (PM G b m ρ)) (AM b) := by
  refine x_met1 (own := RX7) (nm := "broken") (L := [(0, .ref b)]) (by decide) rfl rfl (fun _ => rfl) (Nat.le_of_ble_eq_true rfl) rfl rfl ?_
  intro Γ B R
  have loop : ∀ (n : Nat) (i acc : Int), acc = sumU m 3 i.toNat → 0 ≤ i → i ≤ m 2 → m 2 - i < n → XJ Γ 0 0 (PM G b m ρ) 4 [(0, .ref b), (1, vi acc), (2, vi i)] [] := by
    intro n
    induction n with
    | zero => intro i acc _ _ _ _; omega
    | succ n ih =>
      intro i acc ha hi0 hi1 hn
      refine x_iload_n B dX7_broken_4 rfl ?_
      refine x_aload_n B dX7_broken_5 rfl ?_
      refine x_get B fgX7_7 dX7_broken_6 (fun _ h => ⟨_, PM.o h, rfl⟩) ?_
      refine x_iconst B dX7_broken_9 ?_
      refine x_ialdR B dX7_broken_10 (by omega) (by decide) PM.am (fun r10 => ?_)
      refine x_icmp_ge (tgt := 29) B dX7_broken_11 (by decide) (by omega) (by omega) (fun c11 => ?_) (fun c11 => ?_)
      · refine x_iload_n B dX7_broken_29 rfl ?_
        exact x_retI B R dX7_broken_30 (by rw [ha]; congr 2; omega) (by omega) (fun H h => by exact h)
      · refine x_iload_n B dX7_broken_14 rfl ?_
        refine x_aload_n B dX7_broken_15 rfl ?_
        refine x_iload_n B dX7_broken_16 rfl ?_
        refine x_iconst B dX7_broken_17 ?_
        refine x_mV B mvX7_51 (fun l => c_X7_ofUnit (by omega)) dX7_broken_18 rfl rfl (by decide) (by decide) (Nat.le_of_ble_eq_true rfl) PM.rv (fun r18 => ?_)
        refine x_iadd B dX7_broken_21 ?_
        refine x_istore_n B dX7_broken_22 (by decide) ?_
        refine x_iinc B dX7_broken_23 rfl (by decide) ?_
        refine x_goto (tgt := 4) B dX7_broken_26 (by decide) ?_
        exact ih (i + 1) _ (by rw [sumU_s hi0, ha]) (by omega) (by omega) (by omega)
  refine x_iconst B dX7_broken_0 ?_
  refine x_istore_n B dX7_broken_1 (by decide) ?_
  refine x_iconst B dX7_broken_2 ?_
  refine x_istore_n B dX7_broken_3 (by decide) ?_
  exact loop 9 0 0 rfl (by omega) (by omega) (by omega)
theorem c_X7_worked {G : xG} {l : Launch} {b : Nat} {m : Int → Int} {ρ : Nat → Int → Int} (h1 : 0 ≤ m 2 ∧ m 2 ≤ 8) (h2 : -2147483648 ≤ sumU m 5 (m 2).toNat ∧ sumU m 5 (m 2).toNat < 2147483648) : CT G l yX7_worked cX7_worked 3 (some .int) ({ frames := 1, cells := 0, slots := 0, locals := 22 } : Room) 0 0 [.ref b] (PM G b m ρ) (pI (sumU m 5 (m 2).toNat) (PM G b m ρ)) (AM b) := by
  refine x_met1 (own := RX7) (nm := "worked") (L := [(0, .ref b)]) (by decide) rfl rfl (fun _ => rfl) (Nat.le_of_ble_eq_true rfl) rfl rfl ?_
  intro Γ B R
  have loop : ∀ (n : Nat) (i acc : Int), acc = sumU m 5 i.toNat → 0 ≤ i → i ≤ m 2 → m 2 - i < n → XJ Γ 0 0 (PM G b m ρ) 4 [(0, .ref b), (1, vi acc), (2, vi i)] [] := by
    intro n
    induction n with
    | zero => intro i acc _ _ _ _; omega
    | succ n ih =>
      intro i acc ha hi0 hi1 hn
      refine x_iload_n B dX7_worked_4 rfl ?_
      refine x_aload_n B dX7_worked_5 rfl ?_
      refine x_get B fgX7_7 dX7_worked_6 (fun _ h => ⟨_, PM.o h, rfl⟩) ?_
      refine x_iconst B dX7_worked_9 ?_
      refine x_ialdR B dX7_worked_10 (by omega) (by decide) PM.am (fun r10 => ?_)
      refine x_icmp_ge (tgt := 29) B dX7_worked_11 (by decide) (by omega) (by omega) (fun c11 => ?_) (fun c11 => ?_)
      · refine x_iload_n B dX7_worked_29 rfl ?_
        exact x_retI B R dX7_worked_30 (by rw [ha]; congr 2; omega) (by omega) (fun H h => by exact h)
      · refine x_iload_n B dX7_worked_14 rfl ?_
        refine x_aload_n B dX7_worked_15 rfl ?_
        refine x_iload_n B dX7_worked_16 rfl ?_
        refine x_iconst B dX7_worked_17 ?_
        refine x_mV B mvX7_51 (fun l => c_X7_ofUnit (by omega)) dX7_worked_18 rfl rfl (by decide) (by decide) (Nat.le_of_ble_eq_true rfl) PM.rv (fun r18 => ?_)
        refine x_iadd B dX7_worked_21 ?_
        refine x_istore_n B dX7_worked_22 (by decide) ?_
        refine x_iinc B dX7_worked_23 rfl (by decide) ?_
        refine x_goto (tgt := 4) B dX7_worked_26 (by decide) ?_
        exact ih (i + 1) _ (by rw [sumU_s hi0, ha]) (by omega) (by omega) (by omega)
  refine x_iconst B dX7_worked_0 ?_
  refine x_istore_n B dX7_worked_1 (by decide) ?_
  refine x_iconst B dX7_worked_2 ?_
  refine x_istore_n B dX7_worked_3 (by decide) ?_
  exact loop 9 0 0 rfl (by omega) (by omega) (by omega)
end
section
/-! ===== the reference: copies, the history, the journal, releases ===== -/
/-- n numbers of f from sp on, laid into g from dp on -/
def cpyN (f g : Int → Int) (sp dp n : Int) : Int → Int := fun k => if dp ≤ k ∧ k < dp + n then f (sp + (k - dp)) else g k
theorem cpyN_0 (f g : Int → Int) (sp dp : Int) : cpyN f g sp dp 0 = g := by
  funext k
  unfold cpyN
  rw [if_neg (by omega)]
theorem cpyN_s {f g : Int → Int} {sp dp i : Int} (h : 0 ≤ i) : up (cpyN f g sp dp i) (dp + i) (f (sp + i)) = cpyN f g sp dp (i + 1) := by
  funext k
  unfold up cpyN
  by_cases h1 : k = dp + i
  · rw [if_pos h1, if_pos (by omega)]; congr 1; omega
  · rw [if_neg h1]
    by_cases h2 : dp ≤ k ∧ k < dp + i
    · rw [if_pos h2, if_pos (by omega)]
    · rw [if_neg h2, if_neg (by omega)]
theorem c_X7_bring {G : xG} {l : Launch} {Pg : (Int → Int) → Heap → Prop} {A : Nat → Prop} {fa ta nf nt : Nat} {f g : Int → Int} {x y : Int} (hf : ∀ g H, Pg g H → aat G 0 fa nf f H ∧ ∀ k, -2147483648 ≤ f k ∧ f k < 2147483648)
    (hw : ∀ g z v, (-2147483648 ≤ v ∧ v < 2147483648) → ∀ H, Pg g H → aat G 0 ta nt g H ∧ ∀ H1, aat G 0 ta nt (up g z v) H1 → H1.size = H.size → (∀ q, q ≠ ta → H1[q]? = H[q]?) → Pg (up g z v) H1) (hA : A ta) (h1 : 0 ≤ x ∧ x + 788 ≤ nf ∧ 0 ≤ y ∧ y + 788 ≤ nt) (h2 : nf ≤ 10000 ∧ nt ≤ 10000) : CT G l yX7_bring cX7_bring 5 none ({ frames := 0, cells := 0, slots := 0, locals := 0 } : Room) 0 0 [.ref fa, vi x, .ref ta, vi y] (Pg g) (pV (Pg (cpyN f g x y 788))) A := by
  refine x_met1 (own := RX7) (nm := "bring") (L := [(0, .ref fa), (1, vi x), (2, .ref ta), (3, vi y)]) (by decide) rfl rfl (fun _ => rfl) (Nat.le_of_ble_eq_true rfl) rfl rfl ?_
  intro Γ B R
  have loop : ∀ (n : Nat) (i : Int) (g' : Int → Int), g' = cpyN f g x y i → 0 ≤ i → i ≤ 788 → 788 - i < n → XJ Γ 0 0 (Pg g') 3 [(0, .ref fa), (1, vi x), (2, .ref ta), (3, vi y), (4, vi i)] [] := by
    intro n
    induction n with
    | zero => intro i g' _ _ _ _; omega
    | succ n ih =>
      intro i g' hg hi0 hi1 hn
      refine x_iload B dX7_bring_3 rfl ?_
      refine x_sipush B dX7_bring_5 (by decide) ?_
      refine x_icmp_ge (tgt := 29) B dX7_bring_8 (by decide) (by omega) (by omega) (fun c8 => ?_) (fun c8 => ?_)
      · have e : i = 788 := by omega
        subst e
        exact x_retV B R dX7_bring_29 (fun H h => by rw [← hg]; exact h)
      · refine x_aload_n B dX7_bring_11 rfl ?_
        refine x_iload_n B dX7_bring_12 rfl ?_
        refine x_iload B dX7_bring_13 rfl ?_
        refine x_iadd B dX7_bring_15 ?_
        refine x_aload_n B dX7_bring_16 rfl ?_
        refine x_iload_n B dX7_bring_17 rfl ?_
        refine x_iload B dX7_bring_18 rfl ?_
        refine x_iadd B dX7_bring_20 ?_
        refine x_ialdR B dX7_bring_21 (by omega) (by omega) (hf g') (fun r21 => ?_)
        refine x_iast B dX7_bring_22 (by omega) (by omega) hA (hw g' _ _ r21) ?_
        refine x_iinc B dX7_bring_23 rfl (by decide) ?_
        refine x_goto (tgt := 3) B dX7_bring_26 (by decide) ?_
        exact ih (i + 1) _ (by rw [hg, cpyN_s hi0]) (by omega) (by omega) (by omega)
  refine x_iconst B dX7_bring_0 ?_
  refine x_istore B dX7_bring_1 (by decide) ?_
  exact loop 789 0 g (cpyN_0 f g x y).symm (by omega) (by omega) (by omega)
def s_shift (f : Int → Int) (n : Int) : Int → Int := fun k => if 0 ≤ k ∧ k < n then f (k + 788) else f k
theorem s_shift_s {f : Int → Int} {i : Int} (h : 0 ≤ i) : up (s_shift f i) i (s_shift f i (i + 788)) = s_shift f (i + 1) := by
  funext k
  unfold up s_shift
  by_cases h1 : k = i
  · rw [if_pos h1, if_neg (by omega), if_pos (by omega), h1]
  · rw [if_neg h1]
    by_cases h2 : 0 ≤ k ∧ k < i
    · rw [if_pos h2, if_pos (by omega)]
    · rw [if_neg h2, if_neg (by omega)]
/-- the history behind a change -/
def s_keep (m : Int → Int) (ρ : Nat → Int → Int) : Nat → Int → Int :=
  if ρ 5 0 = 4 then ur ρ 1 (cpyN m (s_shift (ρ 1) 2364) 0 2364 788) else ur (ur ρ 1 (cpyN m (ρ 1) 0 (788 * ρ 5 0) 788)) 5 (up (ρ 5) 0 (ρ 5 0 + 1))
theorem keep_eq {ρ : Nat → Int → Int} {g X : Int → Int} (h4 : ρ 5 0 = 4) : ur ρ 1 X = ur (ur (ur (ur ρ 1 g) 5 (up (ρ 5) 0 3)) 1 X) 5 (up (up (ρ 5) 0 3) 0 4) := by
  funext j
  by_cases h5 : j = 5
  · subst h5
    rw [ur_eq, ur_ne (by decide)]
    funext k
    unfold up
    split
    · next h => rw [h]; exact h4
    · rfl
  · rw [ur_ne (j := j) h5]
    by_cases h1 : j = 1
    · subst h1
      rw [ur_eq, ur_eq]
    · rw [ur_ne h1, ur_ne h1, ur_ne h5, ur_ne h1]
theorem c_X7_keep {G : xG} {l : Launch} {b : Nat} {m : Int → Int} {ρ : Nat → Int → Int} (h1 : 0 ≤ ρ 5 0 ∧ ρ 5 0 ≤ 4) : CT G l yX7_keep cX7_keep 2 none ({ frames := 1, cells := 0, slots := 0, locals := 24 } : Room) 0 0 [.ref b] (PM G b m ρ) (pV (PM G b m (s_keep m ρ))) (AM b) := by
  refine x_met1 (own := RX7) (nm := "keep") (L := [(0, .ref b)]) (by decide) rfl rfl (fun _ => rfl) (Nat.le_of_ble_eq_true rfl) rfl rfl ?_
  intro Γ B R
  have tail : ∀ (ρ' : Nat → Int → Int), (0 ≤ ρ' 5 0 ∧ ρ' 5 0 ≤ 3) → s_keep m ρ = ur (ur ρ' 1 (cpyN m (ρ' 1) 0 (788 * ρ' 5 0) 788)) 5 (up (ρ' 5) 0 (ρ' 5 0 + 1)) → XJ Γ 0 0 (PM G b m ρ') 49 [(0, .ref b)] [] := by
    intro ρ' hc he
    refine x_aload_n B dX7_keep_49 rfl ?_
    refine x_get B fgX7_7 dX7_keep_50 (fun _ h => ⟨_, PM.o h, rfl⟩) ?_
    refine x_iconst B dX7_keep_53 ?_
    refine x_aload_n B dX7_keep_54 rfl ?_
    refine x_get B fgX7_16 dX7_keep_55 (fun _ h => ⟨_, PM.o h, rfl⟩) ?_
    refine x_sipush B dX7_keep_58 (by decide) ?_
    refine x_aload_n B dX7_keep_61 rfl ?_
    refine x_getI B fgX7_28 dX7_keep_62 PM.g3 (fun r62 => ?_)
    refine x_imul B dX7_keep_65 ?_
    refine x_us 1 ?_
    refine x_sN B msX7_32 (fun l => c_X7_bring (Pg := fun g => PM G b m (ur ρ' 1 g)) (nf := 788) (nt := 3152) (fun g H h => PM.am H h) (fun g z v hv => PM.t1 hv) (by unfold AM; omega) (by omega) (by omega) ) dX7_keep_66 rfl rfl (by decide) (by decide) (Nat.le_of_ble_eq_true rfl) ?_
    refine x_aload_n B dX7_keep_69 rfl ?_
    refine x_dup B dX7_keep_70 rfl ?_
    refine x_getI B fgX7_28 dX7_keep_71 PM.g3 (fun r71 => ?_)
    refine x_iconst B dX7_keep_74 ?_
    refine x_iadd B dX7_keep_75 ?_
    refine x_top (show _ = ρ' 5 0 + 1 from rfl) ?_
    refine x_put B fpX7_28 dX7_keep_76 rfl rfl (by unfold AM; omega) (PM.p3 (by omega)) ?_
    exact x_retV B R dX7_keep_79 (fun H h => by rw [he]; exact h)
  have loop : ∀ (n : Nat) (i : Int) (g' : Int → Int), ρ 5 0 = 4 → g' = s_shift (ρ 1) i → 0 ≤ i → i ≤ 2364 → 2364 - i < n → XJ Γ 0 0 (PM G b m (ur ρ 1 g')) 10 [(0, .ref b), (1, vi i)] [] := by
    intro n
    induction n with
    | zero => intro i g' _ _ _ _ _; omega
    | succ n ih =>
      intro i g' h4 hg hi0 hi1 hn
      have e5 : ur ρ 1 g' 5 = ρ 5 := rfl
      refine x_iload_n B dX7_keep_10 rfl ?_
      refine x_sipush B dX7_keep_11 (by decide) ?_
      refine x_icmp_ge (tgt := 39) B dX7_keep_14 (by decide) (by omega) (by omega) (fun c14 => ?_) (fun c14 => ?_)
      · refine x_aload_n B dX7_keep_39 rfl ?_
        refine x_dup B dX7_keep_40 rfl ?_
        refine x_getI B fgX7_28 dX7_keep_41 PM.g3 (fun r41 => ?_)
        refine x_iconst B dX7_keep_44 ?_
        refine x_isub B dX7_keep_45 ?_
        have e0 : ur ρ 1 g' 5 0 = 4 := h4
        refine x_top (y := 3) (by omega) ?_
        refine x_put B fpX7_28 dX7_keep_46 rfl rfl (by unfold AM; omega) (PM.p3 (by omega)) ?_
        refine x_locs (xl_cons rfl xl_nil) (tail _ (by simp [ur, up]) ?_)
        have hi : i = 2364 := by omega
        subst hi
        subst hg
        unfold s_keep
        rw [if_pos h4]
        exact keep_eq h4
      · refine x_aload_n B dX7_keep_17 rfl ?_
        refine x_get B fgX7_16 dX7_keep_18 (fun _ h => ⟨_, PM.o h, rfl⟩) ?_
        refine x_iload_n B dX7_keep_21 rfl ?_
        refine x_aload_n B dX7_keep_22 rfl ?_
        refine x_get B fgX7_16 dX7_keep_23 (fun _ h => ⟨_, PM.o h, rfl⟩) ?_
        refine x_iload_n B dX7_keep_26 rfl ?_
        refine x_sipush B dX7_keep_27 (by decide) ?_
        refine x_iadd B dX7_keep_30 ?_
        refine x_ialdR B dX7_keep_31 (by omega) (by decide) PM.b1 (fun r31 => ?_)
        refine x_iast B dX7_keep_32 (by omega) (by decide) (by unfold AM; omega) (PM.t1 (by omega)) ?_
        refine x_iinc B dX7_keep_33 rfl (by decide) ?_
        refine x_goto (tgt := 10) B dX7_keep_36 (by decide) ?_
        exact ih (i + 1) _ h4 (by rw [hg, s_shift_s hi0]) (by omega) (by omega) (by omega)
  refine x_aload_n B dX7_keep_0 rfl ?_
  refine x_getI B fgX7_28 dX7_keep_1 PM.g3 (fun r1 => ?_)
  refine x_iconst B dX7_keep_4 ?_
  refine x_icmp_ne (tgt := 49) B dX7_keep_5 (by decide) (by omega) (by omega) (fun c5 => ?_) (fun c5 => ?_)
  · have e5 : ρ 5 0 ≠ 4 := by omega
    exact tail ρ (by omega) (by unfold s_keep; rw [if_neg e5])
  · refine x_iconst B dX7_keep_8 ?_
    refine x_istore_n B dX7_keep_9 (by decide) ?_
    exact x_us 1 (loop 2365 0 _ (by omega) (by funext k; unfold s_shift; rw [if_neg (by omega)]) (by omega) (by omega) (by omega))
/-- a new event of the journal -/
def s_note (m : Int → Int) (b w : Int) : Int → Int := fun k =>
  if 668 ≤ k ∧ k < 788 then (if k = 668 then m 1 else if k = 669 then b else if k = 670 then w else m (k - 3)) else if k = 4 then (if m 4 = 40 then 40 else m 4 + 1) else m k
theorem c_X7_note {G : xG} {l : Launch} {b : Nat} {m : Int → Int} {ρ : Nat → Int → Int} {x w : Int} (h1 : -2147483648 ≤ x ∧ x < 2147483648) (h2 : -2147483648 ≤ w ∧ w < 2147483648) (h3 : 0 ≤ m 4 ∧ m 4 ≤ 40) : CT G l yX7_note cX7_note 4 none ({ frames := 0, cells := 0, slots := 0, locals := 0 } : Room) 0 0 [.ref b, vi x, vi w] (PM G b m ρ) (pV (PM G b (s_note m x w) ρ)) (AM b) := by
  refine x_met1 (own := RX7) (nm := "note") (L := [(0, .ref b), (1, vi x), (2, vi w)]) (by decide) rfl rfl (fun _ => rfl) (Nat.le_of_ble_eq_true rfl) rfl rfl ?_
  intro Γ B R
  have loop : ∀ (n : Nat) (i : Int) (m' : Int → Int), m' = (fun k => if 668 + i < k ∧ k < 788 then m (k - 3) else m k) → 2 ≤ i → i ≤ 119 → i < n → XJ Γ 0 0 (PM G b m' ρ) 3 [(0, .ref b), (1, vi x), (2, vi w), (3, vi i)] [] := by
    intro n
    induction n with
    | zero => intro i m' _ _ _ _; omega
    | succ n ih =>
      intro i m' hm hi0 hi1 hn
      refine x_iload_n B dX7_note_3 rfl ?_
      refine x_iconst B dX7_note_4 ?_
      refine x_icmp_le (tgt := 36) B dX7_note_5 (by decide) (by omega) (by omega) (fun c5 => ?_) (fun c5 => ?_)
      · have hi : i = 2 := by omega
        subst hi
        have e1 : m' 1 = m 1 := by rw [hm]; rfl
        have e4 : m' 4 = m 4 := by rw [hm]; rfl
        refine x_aload_n B dX7_note_36 rfl ?_
        refine x_get B fgX7_7 dX7_note_37 (fun _ h => ⟨_, PM.o h, rfl⟩) ?_
        refine x_sipush B dX7_note_40 (by decide) ?_
        refine x_aload_n B dX7_note_43 rfl ?_
        refine x_get B fgX7_7 dX7_note_44 (fun _ h => ⟨_, PM.o h, rfl⟩) ?_
        refine x_iconst B dX7_note_47 ?_
        refine x_ialdR B dX7_note_48 (by omega) (by decide) PM.am (fun r48 => ?_)
        refine x_iast B dX7_note_49 (by omega) (by decide) (by unfold AM; omega) (PM.sm (by omega)) ?_
        refine x_aload_n B dX7_note_50 rfl ?_
        refine x_get B fgX7_7 dX7_note_51 (fun _ h => ⟨_, PM.o h, rfl⟩) ?_
        refine x_sipush B dX7_note_54 (by decide) ?_
        refine x_iload_n B dX7_note_57 rfl ?_
        refine x_iast B dX7_note_58 (by omega) (by decide) (by unfold AM; omega) (PM.sm (by omega)) ?_
        refine x_aload_n B dX7_note_59 rfl ?_
        refine x_get B fgX7_7 dX7_note_60 (fun _ h => ⟨_, PM.o h, rfl⟩) ?_
        refine x_sipush B dX7_note_63 (by decide) ?_
        refine x_iload_n B dX7_note_66 rfl ?_
        refine x_iast B dX7_note_67 (by omega) (by decide) (by unfold AM; omega) (PM.sm (by omega)) ?_
        refine x_aload_n B dX7_note_68 rfl ?_
        refine x_get B fgX7_7 dX7_note_69 (fun _ h => ⟨_, PM.o h, rfl⟩) ?_
        refine x_iconst B dX7_note_72 ?_
        refine x_aload_n B dX7_note_73 rfl ?_
        refine x_get B fgX7_7 dX7_note_74 (fun _ h => ⟨_, PM.o h, rfl⟩) ?_
        refine x_iconst B dX7_note_77 ?_
        refine x_ialdR B dX7_note_78 (by omega) (by decide) PM.am (fun r78 => ?_)
        refine x_top (show _ = m 4 from e4) ?_
        refine x_bipush B dX7_note_79 (by decide) ?_
        refine x_icmp_ne (tgt := 89) B dX7_note_81 (by decide) (by omega) (by omega) (fun c81 => ?_) (fun c81 => ?_)
        · refine x_aload_n B dX7_note_89 rfl ?_
          refine x_get B fgX7_7 dX7_note_90 (fun _ h => ⟨_, PM.o h, rfl⟩) ?_
          refine x_iconst B dX7_note_93 ?_
          refine x_ialdR B dX7_note_94 (by omega) (by decide) PM.am (fun r94 => ?_)
          refine x_top (show _ = m 4 from e4) ?_
          refine x_iconst B dX7_note_95 ?_
          refine x_iadd B dX7_note_96 ?_
          refine x_iast B dX7_note_97 (by omega) (by decide) (by unfold AM; omega) (PM.sm (by omega)) ?_
          exact x_retV B R dX7_note_98 (fun H h => by refine cast (congrArg (fun f => PM G b f ρ H) ?_) h; funext k; rw [hm]; simp only [up, s_note]; (repeat' split) <;> first | rfl | omega)
        · refine x_bipush B dX7_note_84 (by decide) ?_
          refine x_goto (tgt := 97) B dX7_note_86 (by decide) ?_
          refine x_iast B dX7_note_97 (by omega) (by decide) (by unfold AM; omega) (PM.sm (by omega)) ?_
          exact x_retV B R dX7_note_98 (fun H h => by refine cast (congrArg (fun f => PM G b f ρ H) ?_) h; funext k; rw [hm]; simp only [up, s_note]; (repeat' split) <;> first | rfl | omega)
      · refine x_aload_n B dX7_note_8 rfl ?_
        refine x_get B fgX7_7 dX7_note_9 (fun _ h => ⟨_, PM.o h, rfl⟩) ?_
        refine x_sipush B dX7_note_12 (by decide) ?_
        refine x_iload_n B dX7_note_15 rfl ?_
        refine x_iadd B dX7_note_16 ?_
        refine x_aload_n B dX7_note_17 rfl ?_
        refine x_get B fgX7_7 dX7_note_18 (fun _ h => ⟨_, PM.o h, rfl⟩) ?_
        refine x_sipush B dX7_note_21 (by decide) ?_
        refine x_iload_n B dX7_note_24 rfl ?_
        refine x_iadd B dX7_note_25 ?_
        refine x_iconst B dX7_note_26 ?_
        refine x_isub B dX7_note_27 ?_
        refine x_ialdR B dX7_note_28 (by omega) (by decide) PM.am (fun r28 => ?_)
        refine x_iast B dX7_note_29 (by omega) (by decide) (by unfold AM; omega) (PM.sm (by omega)) ?_
        refine x_iinc B dX7_note_30 rfl (by decide) ?_
        refine x_goto (tgt := 3) B dX7_note_33 (by decide) ?_
        exact ih (i - 1) _ (by
        funext k
        rw [hm]
        simp only [up]
        by_cases h : k = 668 + i
        · rw [if_pos h, if_neg (by omega), if_pos (by omega), h]
        · rw [if_neg h]
          by_cases h2 : 668 + i < k ∧ k < 788
          · rw [if_pos h2, if_pos (by omega)]
          · rw [if_neg h2, if_neg (by omega)]) (by omega) (by omega) (by omega)
  refine x_bipush B dX7_note_0 (by decide) ?_
  refine x_istore_n B dX7_note_2 (by decide) ?_
  exact loop 120 119 _ (by funext k; rw [if_neg (by omega)]) (by omega) (by omega) (by omega)
/-- the first i pieces of shared equipment released, where b has them -/
def s_relS (m : Int → Int) (b i : Int) : Int → Int := fun k => if 53 ≤ k ∧ k < 53 + i ∧ m k = b then -1 else m k
theorem c_X7_releaseShared {G : xG} {l : Launch} {b : Nat} {m : Int → Int} {ρ : Nat → Int → Int} {x : Int} (h1 : -2147483648 ≤ x ∧ x < 2147483648) : CT G l yX7_releaseShared cX7_releaseShared 3 none ({ frames := 0, cells := 0, slots := 0, locals := 0 } : Room) 0 0 [.ref b, vi x] (PM G b m ρ) (pV (PM G b (s_relS m x 3) ρ)) (AM b) := by
  refine x_met1 (own := RX7) (nm := "releaseShared") (L := [(0, .ref b), (1, vi x)]) (by decide) rfl rfl (fun _ => rfl) (Nat.le_of_ble_eq_true rfl) rfl rfl ?_
  intro Γ B R
  have loop : ∀ (n : Nat) (i : Int) (m' : Int → Int), m' = s_relS m x i → 0 ≤ i → i ≤ 3 → 3 - i < n → XJ Γ 0 0 (PM G b m' ρ) 2 [(0, .ref b), (1, vi x), (2, vi i)] [] := by
    intro n
    induction n with
    | zero => intro i m' _ _ _ _; omega
    | succ n ih =>
      intro i m' hm hi0 hi1 hn
      have e : m' (53 + i) = m (53 + i) := by rw [hm]; unfold s_relS; rw [if_neg (by omega)]
      refine x_iload_n B dX7_releaseShared_2 rfl ?_
      refine x_iconst B dX7_releaseShared_3 ?_
      refine x_icmp_ge (tgt := 48) B dX7_releaseShared_4 (by decide) (by omega) (by omega) (fun c4 => ?_) (fun c4 => ?_)
      · exact x_retV B R dX7_releaseShared_48 (fun H h => by rw [hm, show i = 3 by omega] at h; exact h)
      · refine x_aload_n B dX7_releaseShared_7 rfl ?_
        refine x_get B fgX7_7 dX7_releaseShared_8 (fun _ h => ⟨_, PM.o h, rfl⟩) ?_
        refine x_bipush B dX7_releaseShared_11 (by decide) ?_
        refine x_iload_n B dX7_releaseShared_13 rfl ?_
        refine x_iadd B dX7_releaseShared_14 ?_
        refine x_aload_n B dX7_releaseShared_15 rfl ?_
        refine x_get B fgX7_7 dX7_releaseShared_16 (fun _ h => ⟨_, PM.o h, rfl⟩) ?_
        refine x_bipush B dX7_releaseShared_19 (by decide) ?_
        refine x_iload_n B dX7_releaseShared_21 rfl ?_
        refine x_iadd B dX7_releaseShared_22 ?_
        refine x_ialdR B dX7_releaseShared_23 (by omega) (by decide) PM.am (fun r23 => ?_)
        refine x_iload_n B dX7_releaseShared_24 rfl ?_
        refine x_icmp_ne (tgt := 32) B dX7_releaseShared_25 (by decide) (by omega) (by omega) (fun c25 => ?_) (fun c25 => ?_)
        · refine x_aload_n B dX7_releaseShared_32 rfl ?_
          refine x_get B fgX7_7 dX7_releaseShared_33 (fun _ h => ⟨_, PM.o h, rfl⟩) ?_
          refine x_bipush B dX7_releaseShared_36 (by decide) ?_
          refine x_iload_n B dX7_releaseShared_38 rfl ?_
          refine x_iadd B dX7_releaseShared_39 ?_
          refine x_ialdR B dX7_releaseShared_40 (by omega) (by decide) PM.am (fun r40 => ?_)
          refine x_iast B dX7_releaseShared_41 (by omega) (by decide) (by unfold AM; omega) (PM.sm (by omega)) ?_
          refine x_iinc B dX7_releaseShared_42 rfl (by decide) ?_
          refine x_goto (tgt := 2) B dX7_releaseShared_45 (by decide) ?_
          exact ih (i + 1) _ (by
          funext k
          rw [hm] at *
          simp only [up, s_relS] at *
          by_cases h : k = 53 + i
          · subst h; (repeat' split) <;> omega
          · rw [if_neg h]; (repeat' split) <;> omega) (by omega) (by omega) (by omega)
        · refine x_iconst B dX7_releaseShared_28 ?_
          refine x_goto (tgt := 41) B dX7_releaseShared_29 (by decide) ?_
          refine x_iast B dX7_releaseShared_41 (by omega) (by decide) (by unfold AM; omega) (PM.sm (by omega)) ?_
          refine x_iinc B dX7_releaseShared_42 rfl (by decide) ?_
          refine x_goto (tgt := 2) B dX7_releaseShared_45 (by decide) ?_
          exact ih (i + 1) _ (by
          funext k
          rw [hm] at *
          simp only [up, s_relS] at *
          by_cases h : k = 53 + i
          · subst h; (repeat' split) <;> omega
          · rw [if_neg h]; (repeat' split) <;> omega) (by omega) (by omega) (by omega)
  refine x_iconst B dX7_releaseShared_0 ?_
  refine x_istore_n B dX7_releaseShared_1 (by decide) ?_
  exact loop 4 0 _ (by funext k; unfold s_relS; rw [if_neg (by omega)]) (by omega) (by omega) (by omega)
theorem s_relS_ne {m : Int → Int} {b i k : Int} (h : k < 53 ∨ 53 + i ≤ k) : s_relS m b i k = m k := by
  unfold s_relS
  rw [if_neg (by omega)]
def s_relU (m : Int → Int) (b : Int) : Int → Int :=
  let u := m (548 + 10 * b + 8)
  if u = -1 then m else
    let m1 := up m (5 + 6 * u + 2) (-1)
    up (up m1 (5 + 6 * u + 4) (m1 0)) (548 + 10 * b + 8) (-1)
theorem c_X7_releaseUnit {G : xG} {l : Launch} {b : Nat} {m : Int → Int} {ρ : Nat → Int → Int} {x : Int} (h1 : 0 ≤ x ∧ x < 12) (h2 : -1 ≤ m (548 + 10 * x + 8) ∧ m (548 + 10 * x + 8) < 8) : CT G l yX7_releaseUnit cX7_releaseUnit 3 none ({ frames := 1, cells := 0, slots := 0, locals := 23 } : Room) 0 0 [.ref b, vi x] (PM G b m ρ) (pV (PM G b (s_relU m x) ρ)) (AM b) := by
  refine x_met1 (own := RX7) (nm := "releaseUnit") (L := [(0, .ref b), (1, vi x)]) (by decide) rfl rfl (fun _ => rfl) (Nat.le_of_ble_eq_true rfl) rfl rfl ?_
  intro Γ B R
  refine x_aload_n B dX7_releaseUnit_0 rfl ?_
  refine x_iload_n B dX7_releaseUnit_1 rfl ?_
  refine x_bipush B dX7_releaseUnit_2 (by decide) ?_
  refine x_mV B mvX7_40 (fun l => c_X7_of (by omega)) dX7_releaseUnit_4 rfl rfl (by decide) (by decide) (Nat.le_of_ble_eq_true rfl) PM.rv (fun r4 => ?_)
  refine x_istore_n B dX7_releaseUnit_7 (by decide) ?_
  refine x_iload_n B dX7_releaseUnit_8 rfl ?_
  refine x_iconst B dX7_releaseUnit_9 ?_
  refine x_icmp_eq (tgt := 40) B dX7_releaseUnit_10 (by decide) (by omega) (by omega) (fun c10 => ?_) (fun c10 => ?_)
  · exact x_retV B R dX7_releaseUnit_40 (fun H h => by simp only [s_relU]; first | (rw [if_pos (by omega)]; exact h) | (rw [if_neg (by omega)]; exact h))
  · refine x_aload_n B dX7_releaseUnit_13 rfl ?_
    refine x_iload_n B dX7_releaseUnit_14 rfl ?_
    refine x_iconst B dX7_releaseUnit_15 ?_
    refine x_iconst B dX7_releaseUnit_16 ?_
    refine x_mN B mvX7_47 (fun l => c_X7_putUnit (by omega) (by omega)) dX7_releaseUnit_17 rfl rfl (by decide) (by decide) (Nat.le_of_ble_eq_true rfl) PM.rv ?_
    refine x_aload_n B dX7_releaseUnit_20 rfl ?_
    refine x_iload_n B dX7_releaseUnit_21 rfl ?_
    refine x_iconst B dX7_releaseUnit_22 ?_
    refine x_aload_n B dX7_releaseUnit_23 rfl ?_
    refine x_get B fgX7_7 dX7_releaseUnit_24 (fun _ h => ⟨_, PM.o h, rfl⟩) ?_
    refine x_iconst B dX7_releaseUnit_27 ?_
    refine x_ialdR B dX7_releaseUnit_28 (by omega) (by decide) PM.am (fun r28 => ?_)
    refine x_mN B mvX7_47 (fun l => c_X7_putUnit (by omega) (by omega)) dX7_releaseUnit_29 rfl rfl (by decide) (by decide) (Nat.le_of_ble_eq_true rfl) PM.rv ?_
    refine x_aload_n B dX7_releaseUnit_32 rfl ?_
    refine x_iload_n B dX7_releaseUnit_33 rfl ?_
    refine x_bipush B dX7_releaseUnit_34 (by decide) ?_
    refine x_iconst B dX7_releaseUnit_36 ?_
    refine x_mN B mvX7_54 (fun l => c_X7_put (by omega) (by omega)) dX7_releaseUnit_37 rfl rfl (by decide) (by decide) (Nat.le_of_ble_eq_true rfl) PM.rv ?_
    exact x_retV B R dX7_releaseUnit_40 (fun H h => by simp only [s_relU]; first | (rw [if_pos (by omega)]; exact h) | (rw [if_neg (by omega)]; exact h))
def s_endsBy (m : Int → Int) (b st w : Int) : Int → Int := s_note (up (s_relU (s_relS m b 3) b) (548 + 10 * b + 5) st) b w
theorem s_relU_4 (m : Int → Int) (b : Int) (hb : 0 ≤ b ∧ b < 12) (h : -1 ≤ m (548 + 10 * b + 8) ∧ m (548 + 10 * b + 8) < 8) : s_relU m b 4 = m 4 := by
  simp only [s_relU]
  split
  · rfl
  · unfold up
    rw [if_neg (by omega), if_neg (by omega), if_neg (by omega)]
theorem c_X7_endsBy {G : xG} {l : Launch} {b : Nat} {m : Int → Int} {ρ : Nat → Int → Int} {x st w : Int} (h1 : 0 ≤ x ∧ x < 12) (h2 : -1 ≤ m (548 + 10 * x + 8) ∧ m (548 + 10 * x + 8) < 8) (h3 : -2147483648 ≤ st ∧ st < 2147483648) (h4 : -2147483648 ≤ w ∧ w < 2147483648) (h5 : 0 ≤ m 4 ∧ m 4 ≤ 40) : CT G l yX7_endsBy cX7_endsBy 4 none ({ frames := 2, cells := 0, slots := 0, locals := 45 } : Room) 0 0 [.ref b, vi x, vi st, vi w] (PM G b m ρ) (pV (PM G b (s_endsBy m x st w) ρ)) (AM b) := by
  refine x_met1 (own := RX7) (nm := "endsBy") (L := [(0, .ref b), (1, vi x), (2, vi st), (3, vi w)]) (by decide) rfl rfl (fun _ => rfl) (Nat.le_of_ble_eq_true rfl) rfl rfl ?_
  intro Γ B R
  have e8 : s_relS m x 3 (548 + 10 * x + 8) = m (548 + 10 * x + 8) := s_relS_ne (by omega)
  have e4 : (up (s_relU (s_relS m x 3) x) (548 + 10 * x + 5) st) 4 = m 4 := by
    rw [up_ne (by omega), s_relU_4 _ _ h1 (by omega), s_relS_ne (by omega)]
  refine x_aload_n B dX7_endsBy_0 rfl ?_
  refine x_iload_n B dX7_endsBy_1 rfl ?_
  refine x_mN B mvX7_57 (fun l => c_X7_releaseShared (by omega)) dX7_endsBy_2 rfl rfl (by decide) (by decide) (Nat.le_of_ble_eq_true rfl) PM.rv ?_
  refine x_aload_n B dX7_endsBy_5 rfl ?_
  refine x_iload_n B dX7_endsBy_6 rfl ?_
  refine x_mN B mvX7_61 (fun l => c_X7_releaseUnit (by omega) (by omega)) dX7_endsBy_7 rfl rfl (by decide) (by decide) (Nat.le_of_ble_eq_true rfl) PM.rv ?_
  refine x_aload_n B dX7_endsBy_10 rfl ?_
  refine x_iload_n B dX7_endsBy_11 rfl ?_
  refine x_iconst B dX7_endsBy_12 ?_
  refine x_iload_n B dX7_endsBy_13 rfl ?_
  refine x_mN B mvX7_54 (fun l => c_X7_put (by omega) (by omega)) dX7_endsBy_14 rfl rfl (by decide) (by decide) (Nat.le_of_ble_eq_true rfl) PM.rv ?_
  refine x_aload_n B dX7_endsBy_17 rfl ?_
  refine x_iload_n B dX7_endsBy_18 rfl ?_
  refine x_iload_n B dX7_endsBy_19 rfl ?_
  refine x_mN B mvX7_64 (fun l => c_X7_note (by omega) (by omega) (by omega)) dX7_endsBy_20 rfl rfl (by decide) (by decide) (Nat.le_of_ble_eq_true rfl) PM.rv ?_
  exact x_retV B R dX7_endsBy_23 (fun H h => by exact h)
def s_holds (m : Int → Int) (b : Int) : Int → Int := s_note (up (s_relS m b 3) (548 + 10 * b + 5) 2) b 2
theorem c_X7_holds {G : xG} {l : Launch} {b : Nat} {m : Int → Int} {ρ : Nat → Int → Int} {x : Int} (h1 : 0 ≤ x ∧ x < 12) (h5 : 0 ≤ m 4 ∧ m 4 ≤ 40) : CT G l yX7_holds cX7_holds 2 none ({ frames := 1, cells := 0, slots := 0, locals := 23 } : Room) 0 0 [.ref b, vi x] (PM G b m ρ) (pV (PM G b (s_holds m x) ρ)) (AM b) := by
  refine x_met1 (own := RX7) (nm := "holds") (L := [(0, .ref b), (1, vi x)]) (by decide) rfl rfl (fun _ => rfl) (Nat.le_of_ble_eq_true rfl) rfl rfl ?_
  intro Γ B R
  have e4 : (up (s_relS m x 3) (548 + 10 * x + 5) 2) 4 = m 4 := by
    rw [up_ne (by omega), s_relS_ne (by omega)]
  refine x_aload_n B dX7_holds_0 rfl ?_
  refine x_iload_n B dX7_holds_1 rfl ?_
  refine x_mN B mvX7_57 (fun l => c_X7_releaseShared (by omega)) dX7_holds_2 rfl rfl (by decide) (by decide) (Nat.le_of_ble_eq_true rfl) PM.rv ?_
  refine x_aload_n B dX7_holds_5 rfl ?_
  refine x_iload_n B dX7_holds_6 rfl ?_
  refine x_iconst B dX7_holds_7 ?_
  refine x_iconst B dX7_holds_8 ?_
  refine x_mN B mvX7_54 (fun l => c_X7_put (by omega) (by omega)) dX7_holds_9 rfl rfl (by decide) (by decide) (Nat.le_of_ble_eq_true rfl) PM.rv ?_
  refine x_aload_n B dX7_holds_12 rfl ?_
  refine x_iload_n B dX7_holds_13 rfl ?_
  refine x_iconst B dX7_holds_14 ?_
  refine x_mN B mvX7_64 (fun l => c_X7_note (by omega) (by omega) (by omega)) dX7_holds_15 rfl rfl (by decide) (by decide) (Nat.le_of_ble_eq_true rfl) PM.rv ?_
  exact x_retV B R dX7_holds_18 (fun H h => by exact h)
end
section
/-! ===== what the reference's memory holds between two calls ===== -/
/-- a packed phase -/
def okP (p : Int) : Prop := 0 ≤ p ∧ p < 524288 ∧ 1 ≤ p / 4 % 128 ∧ p / 4 % 128 ≤ 99 ∧ 1 ≤ p / 2048 % 128 ∧ p / 2048 % 128 ≤ 100
/-- the bits of an amount behind k phases -/
def okF (k z : Int) : Prop := 1065353216 - 58720256 * k ≤ z ∧ z ≤ 1176256512 + 8388608 * k
def okU (m : Int → Int) (W u : Int) : Prop :=
  (0 ≤ m (5 + 6 * u + 0) ∧ m (5 + 6 * u + 0) ≤ 3) ∧ (1 ≤ m (5 + 6 * u + 1) ∧ m (5 + 6 * u + 1) ≤ 10000) ∧ (-1 ≤ m (5 + 6 * u + 2) ∧ m (5 + 6 * u + 2) < m 3) ∧ (0 ≤ m (5 + 6 * u + 3) ∧ m (5 + 6 * u + 3) ≤ 1) ∧ (0 ≤ m (5 + 6 * u + 4) ∧ m (5 + 6 * u + 4) ≤ 30) ∧ (0 ≤ m (5 + 6 * u + 5) ∧ m (5 + 6 * u + 5) ≤ W)
/-- the page of a batch's version; how many phases it has; its phase k -/
def pgB (m : Int → Int) (b : Int) : Int := 9 * m (548 + 10 * b + 0) + m (548 + 10 * b + 1) - 1
def lnB (m : Int → Int) (b : Int) : Int := m (62 + pgB m b)
def phB (m : Int → Int) (b k : Int) : Int := m (116 + 8 * pgB m b + k)
def okB (m : Int → Int) (b : Int) : Prop :=
  (0 ≤ m (548 + 10 * b + 0) ∧ m (548 + 10 * b + 0) < 6) ∧ (1 ≤ m (548 + 10 * b + 1) ∧ m (548 + 10 * b + 1) ≤ m (56 + m (548 + 10 * b + 0))) ∧ (1 ≤ m (548 + 10 * b + 2) ∧ m (548 + 10 * b + 2) ≤ 10000) ∧ (0 ≤ m (548 + 10 * b + 3) ∧ m (548 + 10 * b + 3) ≤ 9) ∧ (-1 ≤ m (548 + 10 * b + 4) ∧ m (548 + 10 * b + 4) < b) ∧
  (0 ≤ m (548 + 10 * b + 5) ∧ m (548 + 10 * b + 5) ≤ 6) ∧ (0 ≤ m (548 + 10 * b + 6) ∧ m (548 + 10 * b + 6) ≤ lnB m b ∧ (m (548 + 10 * b + 5) ≠ 6 → m (548 + 10 * b + 6) < lnB m b)) ∧ (0 ≤ m (548 + 10 * b + 7) ∧ m (548 + 10 * b + 7) < 99 ∧ (m (548 + 10 * b + 5) ≠ 6 → m (548 + 10 * b + 7) < phB m b (m (548 + 10 * b + 6)) / 4 % 128)) ∧ (-1 ≤ m (548 + 10 * b + 8) ∧ m (548 + 10 * b + 8) < m 2) ∧ okF (m (548 + 10 * b + 6)) (m (548 + 10 * b + 9)) ∧
  (m (548 + 10 * b + 4) ≠ -1 → m (548 + 10 * m (548 + 10 * b + 4) + 5) = 5 → 4 ≤ m (548 + 10 * b + 5))
def okV (m : Int → Int) (g : Int) : Prop := (1 ≤ m (62 + g) ∧ m (62 + g) ≤ 8) ∧ ∀ k, 0 ≤ k → k < m (62 + g) → okP (m (116 + 8 * g + k))
/-- W: what a unit may have worked -/
def Iv (m : Int → Int) (W : Int) : Prop :=
  (0 ≤ m 0 ∧ m 0 ≤ 30) ∧ (0 ≤ m 1 ∧ m 1 ≤ 60000) ∧ (0 ≤ m 2 ∧ m 2 ≤ 8) ∧ (0 ≤ m 3 ∧ m 3 ≤ 12) ∧ (0 ≤ m 4 ∧ m 4 ≤ 40) ∧ (∀ u, 0 ≤ u → u < m 2 → okU m W u) ∧ (∀ k, 0 ≤ k → k < 3 → -1 ≤ m (53 + k) ∧ m (53 + k) < m 3) ∧ (∀ r, 0 ≤ r → r < 6 → 0 ≤ m (56 + r) ∧ m (56 + r) ≤ 9) ∧
  (∀ r v, 0 ≤ r → r < 6 → 1 ≤ v → v ≤ m (56 + r) → okV m (9 * r + v - 1)) ∧ ∀ b, 0 ≤ b → b < m 3 → okB m b
/-- the history's count, the text's length -/
def Ir (ρ : Nat → Int → Int) : Prop := (0 ≤ ρ 5 0 ∧ ρ 5 0 ≤ 4) ∧ (0 ≤ ρ 5 1 ∧ ρ 5 1 ≤ 100)
section IVS
variable {m : Int → Int} {W : Int}
theorem Iv.n (h : Iv m W) : (0 ≤ m 0 ∧ m 0 ≤ 30) ∧ (0 ≤ m 1 ∧ m 1 ≤ 60000) ∧ (0 ≤ m 2 ∧ m 2 ≤ 8) ∧ (0 ≤ m 3 ∧ m 3 ≤ 12) ∧ (0 ≤ m 4 ∧ m 4 ≤ 40) := ⟨h.1, h.2.1, h.2.2.1, h.2.2.2.1, h.2.2.2.2.1⟩
theorem Iv.u (h : Iv m W) {u : Int} (h0 : 0 ≤ u) (h1 : u < m 2) : okU m W u := h.2.2.2.2.2.1 u h0 h1
theorem Iv.sh (h : Iv m W) {k : Int} (h0 : 0 ≤ k) (h1 : k < 3) : -1 ≤ m (53 + k) ∧ m (53 + k) < m 3 := h.2.2.2.2.2.2.1 k h0 h1
theorem Iv.vs (h : Iv m W) {r : Int} (h0 : 0 ≤ r) (h1 : r < 6) : 0 ≤ m (56 + r) ∧ m (56 + r) ≤ 9 := h.2.2.2.2.2.2.2.1 r h0 h1
theorem Iv.pg (h : Iv m W) {r v : Int} (h0 : 0 ≤ r) (h1 : r < 6) (h2 : 1 ≤ v) (h3 : v ≤ m (56 + r)) : okV m (9 * r + v - 1) := h.2.2.2.2.2.2.2.2.1 r v h0 h1 h2 h3
theorem Iv.b (h : Iv m W) {b : Int} (h0 : 0 ≤ b) (h1 : b < m 3) : okB m b := h.2.2.2.2.2.2.2.2.2 b h0 h1
theorem sumU_rg (h : Iv m W) (w : Int) (hw : w = 3 ∨ w = 5) : ∀ n : Nat, (n : Int) ≤ m 2 → 0 ≤ sumU m w n ∧ (w = 3 → sumU m w n ≤ n) ∧ (w = 5 → sumU m w n ≤ W * n)
  | 0, _ => by simp [sumU]
  | n + 1, hn => by
    have h1 := sumU_rg h w hw n (by omega)
    have h2 := h.u (u := n) (by omega) (by omega)
    unfold okU at h2
    unfold sumU
    have e : W * ((n + 1 : Nat) : Int) = W * n + W := by
      rw [show ((n + 1 : Nat) : Int) = (n : Int) + 1 from rfl, Int.mul_add, Int.mul_one]
    rw [e]
    rcases hw with hw | hw
    · subst hw; omega
    · subst hw; omega
end IVS
-- the parts of a packed phase
theorem c_X7_kindOf {G : xG} {l : Launch} {P : Heap → Prop} {A : Nat → Prop} {x : Int} (h1 : 0 ≤ x ∧ x < 524288) : CT G l yX7_kindOf cX7_kindOf 1 (some .int) ({ frames := 0, cells := 0, slots := 0, locals := 0 } : Room) 0 0 [vi x] P (pI (x % 4) P) A := by
  refine x_met1 (own := RX7) (nm := "kindOf") (L := [(0, vi x)]) (by decide) rfl rfl (fun _ => rfl) (Nat.le_of_ble_eq_true rfl) rfl rfl ?_
  intro Γ B R
  refine x_iload_n B dX7_kindOf_0 rfl ?_
  refine x_iconst B dX7_kindOf_1 ?_
  refine x_iand (w := x % 4) B dX7_kindOf_2 (i32_mask 2 3 rfl (by omega)) ?_
  exact x_retI B R dX7_kindOf_3 rfl (by omega) (fun H h => h)
theorem c_X7_durationOf {G : xG} {l : Launch} {P : Heap → Prop} {A : Nat → Prop} {x : Int} (h1 : 0 ≤ x ∧ x < 524288) : CT G l yX7_durationOf cX7_durationOf 1 (some .int) ({ frames := 0, cells := 0, slots := 0, locals := 0 } : Room) 0 0 [vi x] P (pI (x / 4 % 128) P) A := by
  refine x_met1 (own := RX7) (nm := "durationOf") (L := [(0, vi x)]) (by decide) rfl rfl (fun _ => rfl) (Nat.le_of_ble_eq_true rfl) rfl rfl ?_
  intro Γ B R
  refine x_iload_n B dX7_durationOf_0 rfl ?_
  refine x_iconst B dX7_durationOf_1 ?_
  refine x_ishr (w := x / 4) B dX7_durationOf_2 (i32_shr (k := 2) (by omega) (by omega)) ?_
  refine x_bipush B dX7_durationOf_3 (by decide) ?_
  refine x_iand (w := x / 4 % 128) B dX7_durationOf_5 (i32_mask 7 127 rfl (by omega)) ?_
  exact x_retI B R dX7_durationOf_6 rfl (by omega) (fun H h => h)
theorem c_X7_sharedOf {G : xG} {l : Launch} {P : Heap → Prop} {A : Nat → Prop} {x : Int} (h1 : 0 ≤ x ∧ x < 524288) : CT G l yX7_sharedOf cX7_sharedOf 1 (some .int) ({ frames := 0, cells := 0, slots := 0, locals := 0 } : Room) 0 0 [vi x] P (pI (x / 512 % 4 - 1) P) A := by
  refine x_met1 (own := RX7) (nm := "sharedOf") (L := [(0, vi x)]) (by decide) rfl rfl (fun _ => rfl) (Nat.le_of_ble_eq_true rfl) rfl rfl ?_
  intro Γ B R
  refine x_iload_n B dX7_sharedOf_0 rfl ?_
  refine x_bipush B dX7_sharedOf_1 (by decide) ?_
  refine x_ishr (w := x / 512) B dX7_sharedOf_3 (i32_shr (k := 9) (by omega) (by omega)) ?_
  refine x_iconst B dX7_sharedOf_4 ?_
  refine x_iand (w := x / 512 % 4) B dX7_sharedOf_5 (i32_mask 2 3 rfl (by omega)) ?_
  refine x_iconst B dX7_sharedOf_6 ?_
  refine x_isub B dX7_sharedOf_7 ?_
  exact x_retI B R dX7_sharedOf_8 rfl (by omega) (fun H h => h)
theorem c_X7_yieldOf {G : xG} {l : Launch} {P : Heap → Prop} {A : Nat → Prop} {x : Int} (h1 : 0 ≤ x ∧ x < 524288) : CT G l yX7_yieldOf cX7_yieldOf 1 (some .int) ({ frames := 0, cells := 0, slots := 0, locals := 0 } : Room) 0 0 [vi x] P (pI (x / 2048 % 128) P) A := by
  refine x_met1 (own := RX7) (nm := "yieldOf") (L := [(0, vi x)]) (by decide) rfl rfl (fun _ => rfl) (Nat.le_of_ble_eq_true rfl) rfl rfl ?_
  intro Γ B R
  refine x_iload_n B dX7_yieldOf_0 rfl ?_
  refine x_bipush B dX7_yieldOf_1 (by decide) ?_
  refine x_ishr (w := x / 2048) B dX7_yieldOf_3 (i32_shr (k := 11) (by omega) (by omega)) ?_
  refine x_bipush B dX7_yieldOf_4 (by decide) ?_
  refine x_iand (w := x / 2048 % 128) B dX7_yieldOf_6 (i32_mask 7 127 rfl (by omega)) ?_
  exact x_retI B R dX7_yieldOf_7 rfl (by omega) (fun H h => h)
theorem c_X7_markOf {G : xG} {l : Launch} {P : Heap → Prop} {A : Nat → Prop} {x : Int} (h1 : 0 ≤ x ∧ x < 524288) : CT G l yX7_markOf cX7_markOf 1 (some .int) ({ frames := 0, cells := 0, slots := 0, locals := 0 } : Room) 0 0 [vi x] P (pI (x / 262144 % 2) P) A := by
  refine x_met1 (own := RX7) (nm := "markOf") (L := [(0, vi x)]) (by decide) rfl rfl (fun _ => rfl) (Nat.le_of_ble_eq_true rfl) rfl rfl ?_
  intro Γ B R
  refine x_iload_n B dX7_markOf_0 rfl ?_
  refine x_bipush B dX7_markOf_1 (by decide) ?_
  refine x_ishr (w := x / 262144) B dX7_markOf_3 (i32_shr (k := 18) (by omega) (by omega)) ?_
  refine x_iconst B dX7_markOf_4 ?_
  refine x_iand (w := x / 262144 % 2) B dX7_markOf_5 (i32_mask 1 1 rfl (by omega)) ?_
  exact x_retI B R dX7_markOf_6 rfl (by omega) (fun H h => h)
theorem c_X7_phaseAt {G : xG} {l : Launch} {b : Nat} {m : Int → Int} {ρ : Nat → Int → Int} {x k : Int} (h1 : 0 ≤ x ∧ x < 12) (h2 : 0 ≤ m (548 + 10 * x + 0) ∧ m (548 + 10 * x + 0) < 6) (h3 : 1 ≤ m (548 + 10 * x + 1) ∧ m (548 + 10 * x + 1) ≤ 9) (h4 : 0 ≤ k ∧ k < 8) : CT G l yX7_phaseAt cX7_phaseAt 3 (some .int) ({ frames := 1, cells := 0, slots := 0, locals := 23 } : Room) 0 0 [.ref b, vi x, vi k] (PM G b m ρ) (pI (phB m x k) (PM G b m ρ)) (AM b) := by
  refine x_met1 (own := RX7) (nm := "phaseAt") (L := [(0, .ref b), (1, vi x), (2, vi k)]) (by decide) rfl rfl (fun _ => rfl) (Nat.le_of_ble_eq_true rfl) rfl rfl ?_
  intro Γ B R
  refine x_aload_n B dX7_phaseAt_0 rfl ?_
  refine x_aload_n B dX7_phaseAt_1 rfl ?_
  refine x_iload_n B dX7_phaseAt_2 rfl ?_
  refine x_iconst B dX7_phaseAt_3 ?_
  refine x_mV B mvX7_40 (fun l => c_X7_of (by omega)) dX7_phaseAt_4 rfl rfl (by decide) (by decide) (Nat.le_of_ble_eq_true rfl) PM.rv (fun r4 => ?_)
  refine x_aload_n B dX7_phaseAt_7 rfl ?_
  refine x_iload_n B dX7_phaseAt_8 rfl ?_
  refine x_iconst B dX7_phaseAt_9 ?_
  refine x_mV B mvX7_40 (fun l => c_X7_of (by omega)) dX7_phaseAt_10 rfl rfl (by decide) (by decide) (Nat.le_of_ble_eq_true rfl) PM.rv (fun r10 => ?_)
  refine x_iload_n B dX7_phaseAt_13 rfl ?_
  refine x_mV B mvX7_85 (fun l => c_X7_phaseIn (by omega) (by omega) (by omega)) dX7_phaseAt_14 rfl rfl (by decide) (by decide) (Nat.le_of_ble_eq_true rfl) PM.rv (fun r14 => ?_)
  exact x_retI B R dX7_phaseAt_17 (by first | rfl | omega) (by show -2147483648 ≤ m _ ∧ m _ < 2147483648; exact r14) (fun H h => by exact h)
theorem c_X7_phaseNow {G : xG} {l : Launch} {b : Nat} {m : Int → Int} {ρ : Nat → Int → Int} {x : Int} (h1 : 0 ≤ x ∧ x < 12) (h2 : 0 ≤ m (548 + 10 * x + 0) ∧ m (548 + 10 * x + 0) < 6) (h3 : 1 ≤ m (548 + 10 * x + 1) ∧ m (548 + 10 * x + 1) ≤ 9) (h4 : 0 ≤ m (548 + 10 * x + 6) ∧ m (548 + 10 * x + 6) < 8) : CT G l yX7_phaseNow cX7_phaseNow 2 (some .int) ({ frames := 2, cells := 0, slots := 0, locals := 45 } : Room) 0 0 [.ref b, vi x] (PM G b m ρ) (pI (phB m x (m (548 + 10 * x + 6))) (PM G b m ρ)) (AM b) := by
  refine x_met1 (own := RX7) (nm := "phaseNow") (L := [(0, .ref b), (1, vi x)]) (by decide) rfl rfl (fun _ => rfl) (Nat.le_of_ble_eq_true rfl) rfl rfl ?_
  intro Γ B R
  refine x_aload_n B dX7_phaseNow_0 rfl ?_
  refine x_iload_n B dX7_phaseNow_1 rfl ?_
  refine x_aload_n B dX7_phaseNow_2 rfl ?_
  refine x_iload_n B dX7_phaseNow_3 rfl ?_
  refine x_bipush B dX7_phaseNow_4 (by decide) ?_
  refine x_mV B mvX7_40 (fun l => c_X7_of (by omega)) dX7_phaseNow_6 rfl rfl (by decide) (by decide) (Nat.le_of_ble_eq_true rfl) PM.rv (fun r6 => ?_)
  refine x_mV B mvX7_89 (fun l => c_X7_phaseAt (by omega) (by omega) (by omega) (by omega)) dX7_phaseNow_9 rfl rfl (by decide) (by decide) (Nat.le_of_ble_eq_true rfl) PM.rv (fun r9 => ?_)
  exact x_retI B R dX7_phaseNow_12 (by first | rfl | omega) (by omega) (fun H h => by exact h)
theorem c_X7_left {G : xG} {l : Launch} {b : Nat} {m : Int → Int} {ρ : Nat → Int → Int} {x : Int} (h1 : 0 ≤ x ∧ x < 12) (h2 : 0 ≤ m (548 + 10 * x + 0) ∧ m (548 + 10 * x + 0) < 6) (h3 : 1 ≤ m (548 + 10 * x + 1) ∧ m (548 + 10 * x + 1) ≤ 9) (h4 : 0 ≤ m (548 + 10 * x + 6) ∧ m (548 + 10 * x + 6) < 8) (h5 : 0 ≤ phB m x (m (548 + 10 * x + 6)) ∧ phB m x (m (548 + 10 * x + 6)) < 524288) (h6 : 0 ≤ m (548 + 10 * x + 7) ∧ m (548 + 10 * x + 7) ≤ 100) : CT G l yX7_left cX7_left 2 (some .int) ({ frames := 3, cells := 0, slots := 0, locals := 66 } : Room) 0 0 [.ref b, vi x] (PM G b m ρ) (pI (phB m x (m (548 + 10 * x + 6)) / 4 % 128 - m (548 + 10 * x + 7)) (PM G b m ρ)) (AM b) := by
  refine x_met1 (own := RX7) (nm := "left") (L := [(0, .ref b), (1, vi x)]) (by decide) rfl rfl (fun _ => rfl) (Nat.le_of_ble_eq_true rfl) rfl rfl ?_
  intro Γ B R
  refine x_aload_n B dX7_left_0 rfl ?_
  refine x_iload_n B dX7_left_1 rfl ?_
  refine x_mV B mvX7_164 (fun l => c_X7_phaseNow (by omega) (by omega) (by omega) (by omega)) dX7_left_2 rfl rfl (by decide) (by decide) (Nat.le_of_ble_eq_true rfl) PM.rv (fun r2 => ?_)
  refine x_sV B msX7_134 (fun l => c_X7_durationOf (by omega)) dX7_left_5 rfl rfl (by decide) (by decide) (Nat.le_of_ble_eq_true rfl) (fun r5 => ?_)
  refine x_aload_n B dX7_left_8 rfl ?_
  refine x_iload_n B dX7_left_9 rfl ?_
  refine x_bipush B dX7_left_10 (by decide) ?_
  refine x_mV B mvX7_40 (fun l => c_X7_of (by omega)) dX7_left_12 rfl rfl (by decide) (by decide) (Nat.le_of_ble_eq_true rfl) PM.rv (fun r12 => ?_)
  refine x_isub B dX7_left_15 ?_
  exact x_retI B R dX7_left_16 (by first | rfl | omega) (by omega) (fun H h => by exact h)
end
section
/-! ===== the reference's calls that let no time go by: each answer, and the memory behind it ===== -/
abbrev xO : Type := Int × (Int → Int) × (Nat → Int → Int)
def s_unit (m : Int → Int) (kind cap : Int) : Int → Int :=
  let u := m 2
  up (up (up (up (up (up (up m 2 (m 2 + 1)) (5 + 6 * u + 0) kind) (5 + 6 * u + 1) cap) (5 + 6 * u + 2) (-1)) (5 + 6 * u + 3) 0) (5 + 6 * u + 4) 0) (5 + 6 * u + 5) 0
def o_unit (m : Int → Int) (ρ : Nat → Int → Int) (kind cap : Int) : xO :=
  if ¬ ((0 ≤ kind ∧ kind ≤ 3) ∧ (1 ≤ cap ∧ cap ≤ 10000)) then (-1, m, ρ) else if m 2 = 8 then (-3, m, ρ) else (m 2, s_unit m kind cap, s_keep m ρ)
theorem c_X7_unit {G : xG} {l : Launch} {b : Nat} {m : Int → Int} {ρ : Nat → Int → Int} {W x y : Int} (h1 : Iv m W) (h2 : Ir ρ) (h3 : -2147483648 ≤ x ∧ x < 2147483648) (h4 : -2147483648 ≤ y ∧ y < 2147483648) : CT G l yX7_unit cX7_unit 4 (some .int) ({ frames := 2, cells := 0, slots := 0, locals := 45 } : Room) 0 0 [.ref b, vi x, vi y] (PM G b m ρ) (pI (o_unit m ρ x y).1 (PM G b (o_unit m ρ x y).2.1 (o_unit m ρ x y).2.2)) (AM b) := by
  refine x_met1 (own := RX7) (nm := "unit") (L := [(0, .ref b), (1, vi x), (2, vi y)]) (by decide) rfl rfl (fun _ => rfl) (Nat.le_of_ble_eq_true rfl) rfl rfl ?_
  intro Γ B R
  have hn := h1.n
  have hr := h2.1
  refine x_iload_n B dX7_unit_0 rfl ?_
  refine x_iconst B dX7_unit_1 ?_
  refine x_iconst B dX7_unit_2 ?_
  refine x_sZ B msX7_36 (fun l => c_X7_in (by omega) (by omega) (by omega)) dX7_unit_3 rfl rfl (by decide) (by decide) (Nat.le_of_ble_eq_true rfl) ?_
  refine x_ifz_eq (tgt := 20) B dX7_unit_6 (by decide) (fun c6 => ?_) (fun c6 => ?_)
  · refine x_iconst B dX7_unit_20 ?_
    exact x_retO B R dX7_unit_21 (by simp only [o_unit]; (repeat (first | rfl | rw [if_pos (by omega)] | rw [if_neg (by omega)])); try (exfalso; omega)) (by omega)
  · refine x_iload_n B dX7_unit_9 rfl ?_
    refine x_iconst B dX7_unit_10 ?_
    refine x_sipush B dX7_unit_11 (by decide) ?_
    refine x_sZ B msX7_36 (fun l => c_X7_in (by omega) (by omega) (by omega)) dX7_unit_14 rfl rfl (by decide) (by decide) (Nat.le_of_ble_eq_true rfl) ?_
    refine x_ifz_ne (tgt := 22) B dX7_unit_17 (by decide) (fun c17 => ?_) (fun c17 => ?_)
    · refine x_aload_n B dX7_unit_22 rfl ?_
      refine x_get B fgX7_7 dX7_unit_23 (fun _ h => ⟨_, PM.o h, rfl⟩) ?_
      refine x_iconst B dX7_unit_26 ?_
      refine x_ialdR B dX7_unit_27 (by omega) (by decide) PM.am (fun r27 => ?_)
      refine x_bipush B dX7_unit_28 (by decide) ?_
      refine x_icmp_ne (tgt := 36) B dX7_unit_30 (by decide) (by omega) (by omega) (fun c30 => ?_) (fun c30 => ?_)
      · refine x_aload_n B dX7_unit_36 rfl ?_
        refine x_mN B mvX7_44 (fun l => c_X7_keep (by omega)) dX7_unit_37 rfl rfl (by decide) (by decide) (Nat.le_of_ble_eq_true rfl) PM.rv ?_
        refine x_aload_n B dX7_unit_40 rfl ?_
        refine x_get B fgX7_7 dX7_unit_41 (fun _ h => ⟨_, PM.o h, rfl⟩) ?_
        refine x_iconst B dX7_unit_44 ?_
        refine x_ialdR B dX7_unit_45 (by omega) (by decide) PM.am (fun r45 => ?_)
        refine x_istore_n B dX7_unit_46 (by decide) ?_
        refine x_aload_n B dX7_unit_47 rfl ?_
        refine x_get B fgX7_7 dX7_unit_48 (fun _ h => ⟨_, PM.o h, rfl⟩) ?_
        refine x_iconst B dX7_unit_51 ?_
        refine x_dup2 B dX7_unit_52 rfl rfl ?_
        refine x_ialdR B dX7_unit_53 (by omega) (by decide) PM.am (fun r53 => ?_)
        refine x_iconst B dX7_unit_54 ?_
        refine x_iadd B dX7_unit_55 ?_
        refine x_iast B dX7_unit_56 (by omega) (by decide) (by unfold AM; omega) (PM.sm (by omega)) ?_
        refine x_aload_n B dX7_unit_57 rfl ?_
        refine x_iload_n B dX7_unit_58 rfl ?_
        refine x_iconst B dX7_unit_59 ?_
        refine x_iload_n B dX7_unit_60 rfl ?_
        refine x_mN B mvX7_47 (fun l => c_X7_putUnit (by omega) (by omega)) dX7_unit_61 rfl rfl (by decide) (by decide) (Nat.le_of_ble_eq_true rfl) PM.rv ?_
        refine x_aload_n B dX7_unit_64 rfl ?_
        refine x_iload_n B dX7_unit_65 rfl ?_
        refine x_iconst B dX7_unit_66 ?_
        refine x_iload_n B dX7_unit_67 rfl ?_
        refine x_mN B mvX7_47 (fun l => c_X7_putUnit (by omega) (by omega)) dX7_unit_68 rfl rfl (by decide) (by decide) (Nat.le_of_ble_eq_true rfl) PM.rv ?_
        refine x_aload_n B dX7_unit_71 rfl ?_
        refine x_iload_n B dX7_unit_72 rfl ?_
        refine x_iconst B dX7_unit_73 ?_
        refine x_iconst B dX7_unit_74 ?_
        refine x_mN B mvX7_47 (fun l => c_X7_putUnit (by omega) (by omega)) dX7_unit_75 rfl rfl (by decide) (by decide) (Nat.le_of_ble_eq_true rfl) PM.rv ?_
        refine x_aload_n B dX7_unit_78 rfl ?_
        refine x_iload_n B dX7_unit_79 rfl ?_
        refine x_iconst B dX7_unit_80 ?_
        refine x_iconst B dX7_unit_81 ?_
        refine x_mN B mvX7_47 (fun l => c_X7_putUnit (by omega) (by omega)) dX7_unit_82 rfl rfl (by decide) (by decide) (Nat.le_of_ble_eq_true rfl) PM.rv ?_
        refine x_aload_n B dX7_unit_85 rfl ?_
        refine x_iload_n B dX7_unit_86 rfl ?_
        refine x_iconst B dX7_unit_87 ?_
        refine x_iconst B dX7_unit_88 ?_
        refine x_mN B mvX7_47 (fun l => c_X7_putUnit (by omega) (by omega)) dX7_unit_89 rfl rfl (by decide) (by decide) (Nat.le_of_ble_eq_true rfl) PM.rv ?_
        refine x_aload_n B dX7_unit_92 rfl ?_
        refine x_iload_n B dX7_unit_93 rfl ?_
        refine x_iconst B dX7_unit_94 ?_
        refine x_iconst B dX7_unit_95 ?_
        refine x_mN B mvX7_47 (fun l => c_X7_putUnit (by omega) (by omega)) dX7_unit_96 rfl rfl (by decide) (by decide) (Nat.le_of_ble_eq_true rfl) PM.rv ?_
        refine x_iload_n B dX7_unit_99 rfl ?_
        exact x_retO B R dX7_unit_100 (by simp only [o_unit]; (repeat (first | rfl | rw [if_pos (by omega)] | rw [if_neg (by omega)])); try (exfalso; omega)) (by omega)
      · refine x_bipush B dX7_unit_33 (by decide) ?_
        exact x_retO B R dX7_unit_35 (by simp only [o_unit]; (repeat (first | rfl | rw [if_pos (by omega)] | rw [if_neg (by omega)])); try (exfalso; omega)) (by omega)
    · refine x_iconst B dX7_unit_20 ?_
      exact x_retO B R dX7_unit_21 (by simp only [o_unit]; (repeat (first | rfl | rw [if_pos (by omega)] | rw [if_neg (by omega)])); try (exfalso; omega)) (by omega)
def o_fail (m : Int → Int) (ρ : Nat → Int → Int) (u : Int) : xO :=
  if ¬ (0 ≤ u ∧ u ≤ m 2 - 1) then (-1, m, ρ) else if m (5 + 6 * u + 3) = 1 then (-2, m, ρ) else
  let m1 := up m (5 + 6 * u + 3) 1
  let x := m (5 + 6 * u + 2)
  if x = -1 ∨ ¬ (m (548 + 10 * x + 5) = 1 ∨ m (548 + 10 * x + 5) = 3) then (-4, m1, s_keep m ρ) else (x, s_holds m1 x, s_keep m ρ)
theorem c_X7_fail {G : xG} {l : Launch} {b : Nat} {m : Int → Int} {ρ : Nat → Int → Int} {W x : Int} (h1 : Iv m W) (h2 : Ir ρ) (h3 : -2147483648 ≤ x ∧ x < 2147483648) : CT G l yX7_fail cX7_fail 3 (some .int) ({ frames := 2, cells := 0, slots := 0, locals := 45 } : Room) 0 0 [.ref b, vi x] (PM G b m ρ) (pI (o_fail m ρ x).1 (PM G b (o_fail m ρ x).2.1 (o_fail m ρ x).2.2)) (AM b) := by
  refine x_met1 (own := RX7) (nm := "fail") (L := [(0, .ref b), (1, vi x)]) (by decide) rfl rfl (fun _ => rfl) (Nat.le_of_ble_eq_true rfl) rfl rfl ?_
  intro Γ B R
  have hn := h1.n
  have hr := h2.1
  refine x_aload_n B dX7_fail_0 rfl ?_
  refine x_iload_n B dX7_fail_1 rfl ?_
  refine x_mZ B mvX7_68 (fun l => c_X7_isUnit (by omega) (by omega)) dX7_fail_2 rfl rfl (by decide) (by decide) (Nat.le_of_ble_eq_true rfl) PM.rv ?_
  refine x_ifz_ne (tgt := 10) B dX7_fail_5 (by decide) (fun c5 => ?_) (fun c5 => ?_)
  · have hu := h1.u (u := x) (by omega) (by omega)
    unfold okU at hu
    have e2 : up m (5 + 6 * x + 3) 1 (5 + 6 * x + 2) = m (5 + 6 * x + 2) := up_ne (by omega)
    have e4 : up m (5 + 6 * x + 3) 1 4 = m 4 := up_ne (by omega)
    have e5 : up m (5 + 6 * x + 3) 1 (548 + 10 * m (5 + 6 * x + 2) + 5) = m (548 + 10 * m (5 + 6 * x + 2) + 5) := up_ne (by omega)
    refine x_aload_n B dX7_fail_10 rfl ?_
    refine x_iload_n B dX7_fail_11 rfl ?_
    refine x_iconst B dX7_fail_12 ?_
    refine x_mV B mvX7_51 (fun l => c_X7_ofUnit (by omega)) dX7_fail_13 rfl rfl (by decide) (by decide) (Nat.le_of_ble_eq_true rfl) PM.rv (fun r13 => ?_)
    refine x_iconst B dX7_fail_16 ?_
    refine x_icmp_ne (tgt := 23) B dX7_fail_17 (by decide) (by omega) (by omega) (fun c17 => ?_) (fun c17 => ?_)
    · refine x_aload_n B dX7_fail_23 rfl ?_
      refine x_mN B mvX7_44 (fun l => c_X7_keep (by omega)) dX7_fail_24 rfl rfl (by decide) (by decide) (Nat.le_of_ble_eq_true rfl) PM.rv ?_
      refine x_aload_n B dX7_fail_27 rfl ?_
      refine x_iload_n B dX7_fail_28 rfl ?_
      refine x_iconst B dX7_fail_29 ?_
      refine x_iconst B dX7_fail_30 ?_
      refine x_mN B mvX7_47 (fun l => c_X7_putUnit (by omega) (by omega)) dX7_fail_31 rfl rfl (by decide) (by decide) (Nat.le_of_ble_eq_true rfl) PM.rv ?_
      refine x_aload_n B dX7_fail_34 rfl ?_
      refine x_iload_n B dX7_fail_35 rfl ?_
      refine x_iconst B dX7_fail_36 ?_
      refine x_mV B mvX7_51 (fun l => c_X7_ofUnit (by omega)) dX7_fail_37 rfl rfl (by decide) (by decide) (Nat.le_of_ble_eq_true rfl) PM.rv (fun r37 => ?_)
      refine x_top e2 ?_
      refine x_istore_n B dX7_fail_40 (by decide) ?_
      refine x_iload_n B dX7_fail_41 rfl ?_
      refine x_iconst B dX7_fail_42 ?_
      refine x_icmp_eq (tgt := 54) B dX7_fail_43 (by decide) (by omega) (by omega) (fun c43 => ?_) (fun c43 => ?_)
      · refine x_bipush B dX7_fail_54 (by decide) ?_
        exact x_retO B R dX7_fail_56 (by simp only [o_fail]; (repeat (first | rfl | rw [if_pos (by omega)] | rw [if_neg (by omega)])); try (exfalso; omega)) (by omega)
      · refine x_aload_n B dX7_fail_46 rfl ?_
        refine x_iload_n B dX7_fail_47 rfl ?_
        refine x_mZ B mvX7_72 (fun l => c_X7_isActive (by omega)) dX7_fail_48 rfl rfl (by decide) (by decide) (Nat.le_of_ble_eq_true rfl) PM.rv ?_
        refine x_ifz_ne (tgt := 57) B dX7_fail_51 (by decide) (fun c51 => ?_) (fun c51 => ?_)
        · refine x_aload_n B dX7_fail_57 rfl ?_
          refine x_iload_n B dX7_fail_58 rfl ?_
          refine x_mN B mvX7_75 (fun l => c_X7_holds (by omega) (by omega)) dX7_fail_59 rfl rfl (by decide) (by decide) (Nat.le_of_ble_eq_true rfl) PM.rv ?_
          refine x_iload_n B dX7_fail_62 rfl ?_
          exact x_retO B R dX7_fail_63 (by simp only [o_fail]; (repeat (first | rfl | rw [if_pos (by omega)] | rw [if_neg (by omega)])); try (exfalso; omega)) (by omega)
        · refine x_bipush B dX7_fail_54 (by decide) ?_
          exact x_retO B R dX7_fail_56 (by simp only [o_fail]; (repeat (first | rfl | rw [if_pos (by omega)] | rw [if_neg (by omega)])); try (exfalso; omega)) (by omega)
    · refine x_bipush B dX7_fail_20 (by decide) ?_
      exact x_retO B R dX7_fail_22 (by simp only [o_fail]; (repeat (first | rfl | rw [if_pos (by omega)] | rw [if_neg (by omega)])); try (exfalso; omega)) (by omega)
  · refine x_iconst B dX7_fail_8 ?_
    exact x_retO B R dX7_fail_9 (by simp only [o_fail]; (repeat (first | rfl | rw [if_pos (by omega)] | rw [if_neg (by omega)])); try (exfalso; omega)) (by omega)
def o_repair (m : Int → Int) (ρ : Nat → Int → Int) (u : Int) : xO :=
  if ¬ (0 ≤ u ∧ u ≤ m 2 - 1) then (-1, m, ρ) else if m (5 + 6 * u + 3) = 0 then (-2, m, ρ) else
  let m1 := up m (5 + 6 * u + 3) 0
  (sumU m1 3 (m1 2).toNat, m1, s_keep m ρ)
theorem sumU_3 {m : Int → Int} (h : ∀ u, 0 ≤ u → u < m 2 → 0 ≤ m (5 + 6 * u + 3) ∧ m (5 + 6 * u + 3) ≤ 1) : ∀ n : Nat, (n : Int) ≤ m 2 → 0 ≤ sumU m 3 n ∧ sumU m 3 n ≤ n
  | 0, _ => by simp [sumU]
  | n + 1, hn => by
    have h1 := sumU_3 h n (by omega)
    have h2 := h n (by omega) (by omega)
    unfold sumU
    omega
theorem c_X7_repair {G : xG} {l : Launch} {b : Nat} {m : Int → Int} {ρ : Nat → Int → Int} {W x : Int} (h1 : Iv m W) (h2 : Ir ρ) (h3 : -2147483648 ≤ x ∧ x < 2147483648) : CT G l yX7_repair cX7_repair 2 (some .int) ({ frames := 2, cells := 0, slots := 0, locals := 45 } : Room) 0 0 [.ref b, vi x] (PM G b m ρ) (pI (o_repair m ρ x).1 (PM G b (o_repair m ρ x).2.1 (o_repair m ρ x).2.2)) (AM b) := by
  refine x_met1 (own := RX7) (nm := "repair") (L := [(0, .ref b), (1, vi x)]) (by decide) rfl rfl (fun _ => rfl) (Nat.le_of_ble_eq_true rfl) rfl rfl ?_
  intro Γ B R
  have hn := h1.n
  have hr := h2.1
  refine x_aload_n B dX7_repair_0 rfl ?_
  refine x_iload_n B dX7_repair_1 rfl ?_
  refine x_mZ B mvX7_68 (fun l => c_X7_isUnit (by omega) (by omega)) dX7_repair_2 rfl rfl (by decide) (by decide) (Nat.le_of_ble_eq_true rfl) PM.rv ?_
  refine x_ifz_ne (tgt := 10) B dX7_repair_5 (by decide) (fun c5 => ?_) (fun c5 => ?_)
  · have hu := h1.u (u := x) (by omega) (by omega)
    unfold okU at hu
    have e2 : up m (5 + 6 * x + 3) 0 2 = m 2 := up_ne (by omega)
    have e3 := sumU_3 (m := up m (5 + 6 * x + 3) 0) (fun u h0 h1' => by
      have h9 := h1.u (u := u) h0 (by omega)
      unfold okU at h9
      unfold up
      split <;> omega) (up m (5 + 6 * x + 3) 0 2).toNat (by omega)
    refine x_aload_n B dX7_repair_10 rfl ?_
    refine x_iload_n B dX7_repair_11 rfl ?_
    refine x_iconst B dX7_repair_12 ?_
    refine x_mV B mvX7_51 (fun l => c_X7_ofUnit (by omega)) dX7_repair_13 rfl rfl (by decide) (by decide) (Nat.le_of_ble_eq_true rfl) PM.rv (fun r13 => ?_)
    refine x_if_ne (tgt := 22) B dX7_repair_16 (by decide) (by omega) (fun c16 => ?_) (fun c16 => ?_)
    · refine x_aload_n B dX7_repair_22 rfl ?_
      refine x_mN B mvX7_44 (fun l => c_X7_keep (by omega)) dX7_repair_23 rfl rfl (by decide) (by decide) (Nat.le_of_ble_eq_true rfl) PM.rv ?_
      refine x_aload_n B dX7_repair_26 rfl ?_
      refine x_iload_n B dX7_repair_27 rfl ?_
      refine x_iconst B dX7_repair_28 ?_
      refine x_iconst B dX7_repair_29 ?_
      refine x_mN B mvX7_47 (fun l => c_X7_putUnit (by omega) (by omega)) dX7_repair_30 rfl rfl (by decide) (by decide) (Nat.le_of_ble_eq_true rfl) PM.rv ?_
      refine x_aload_n B dX7_repair_33 rfl ?_
      refine x_mV B mvX7_78 (fun l => c_X7_broken (by omega) (by omega)) dX7_repair_34 rfl rfl (by decide) (by decide) (Nat.le_of_ble_eq_true rfl) PM.rv (fun r34 => ?_)
      exact x_retO B R dX7_repair_37 (by simp only [o_repair]; (repeat (first | rfl | rw [if_pos (by omega)] | rw [if_neg (by omega)])); try (exfalso; omega)) (by omega)
    · refine x_bipush B dX7_repair_19 (by decide) ?_
      exact x_retO B R dX7_repair_21 (by simp only [o_repair]; (repeat (first | rfl | rw [if_pos (by omega)] | rw [if_neg (by omega)])); try (exfalso; omega)) (by omega)
  · refine x_iconst B dX7_repair_8 ?_
    exact x_retO B R dX7_repair_9 (by simp only [o_repair]; (repeat (first | rfl | rw [if_pos (by omega)] | rw [if_neg (by omega)])); try (exfalso; omega)) (by omega)
def o_unitInfo (m : Int → Int) (ρ : Nat → Int → Int) (u w : Int) : xO :=
  if ¬ ((0 ≤ u ∧ u ≤ m 2 - 1) ∧ (0 ≤ w ∧ w ≤ 6)) then (-1, m, ρ) else if w = 2 ∧ m (5 + 6 * u + 2) = -1 then (-4, m, ρ) else if w < 6 then (m (5 + 6 * u + w), m, ρ) else (if m (5 + 6 * u + 2) = -1 ∧ m (5 + 6 * u + 3) = 0 ∧ m (5 + 6 * u + 4) = 0 then 1 else 0, m, ρ)
theorem c_X7_unitInfo {G : xG} {l : Launch} {b : Nat} {m : Int → Int} {ρ : Nat → Int → Int} {W x y : Int} (h1 : Iv m W) (h2 : Ir ρ) (h3 : -2147483648 ≤ x ∧ x < 2147483648) (h4 : -2147483648 ≤ y ∧ y < 2147483648) : CT G l yX7_unitInfo cX7_unitInfo 3 (some .int) ({ frames := 2, cells := 0, slots := 0, locals := 43 } : Room) 0 0 [.ref b, vi x, vi y] (PM G b m ρ) (pI (o_unitInfo m ρ x y).1 (PM G b (o_unitInfo m ρ x y).2.1 (o_unitInfo m ρ x y).2.2)) (AM b) := by
  refine x_met1 (own := RX7) (nm := "unitInfo") (L := [(0, .ref b), (1, vi x), (2, vi y)]) (by decide) rfl rfl (fun _ => rfl) (Nat.le_of_ble_eq_true rfl) rfl rfl ?_
  intro Γ B R
  have hn := h1.n
  refine x_aload_n B dX7_unitInfo_0 rfl ?_
  refine x_iload_n B dX7_unitInfo_1 rfl ?_
  refine x_mZ B mvX7_68 (fun l => c_X7_isUnit (by omega) (by omega)) dX7_unitInfo_2 rfl rfl (by decide) (by decide) (Nat.le_of_ble_eq_true rfl) PM.rv ?_
  refine x_ifz_eq (tgt := 18) B dX7_unitInfo_5 (by decide) (fun c5 => ?_) (fun c5 => ?_)
  · refine x_iconst B dX7_unitInfo_18 ?_
    exact x_retO B R dX7_unitInfo_19 (by simp only [o_unitInfo]; (repeat (first | rfl | rw [if_pos (by omega)] | rw [if_neg (by omega)])); try (exfalso; omega)) (by omega)
  · refine x_iload_n B dX7_unitInfo_8 rfl ?_
    refine x_iconst B dX7_unitInfo_9 ?_
    refine x_bipush B dX7_unitInfo_10 (by decide) ?_
    refine x_sZ B msX7_36 (fun l => c_X7_in (by omega) (by omega) (by omega)) dX7_unitInfo_12 rfl rfl (by decide) (by decide) (Nat.le_of_ble_eq_true rfl) ?_
    refine x_ifz_ne (tgt := 20) B dX7_unitInfo_15 (by decide) (fun c15 => ?_) (fun c15 => ?_)
    · refine x_iload_n B dX7_unitInfo_20 rfl ?_
      refine x_iconst B dX7_unitInfo_21 ?_
      refine x_icmp_ne (tgt := 38) B dX7_unitInfo_22 (by decide) (by omega) (by omega) (fun c22 => ?_) (fun c22 => ?_)
      · refine x_iload_n B dX7_unitInfo_38 rfl ?_
        refine x_bipush B dX7_unitInfo_39 (by decide) ?_
        refine x_icmp_ge (tgt := 53) B dX7_unitInfo_41 (by decide) (by omega) (by omega) (fun c41 => ?_) (fun c41 => ?_)
        · refine x_aload_n B dX7_unitInfo_53 rfl ?_
          refine x_iload_n B dX7_unitInfo_54 rfl ?_
          refine x_mZ B mvX7_82 (fun l => c_X7_isFree (by omega)) dX7_unitInfo_55 rfl rfl (by decide) (by decide) (Nat.le_of_ble_eq_true rfl) PM.rv ?_
          refine x_ifz_eq (tgt := 65) B dX7_unitInfo_58 (by decide) (fun c58 => ?_) (fun c58 => ?_)
          · refine x_iconst B dX7_unitInfo_65 ?_
            exact x_retO B R dX7_unitInfo_66 (by simp only [o_unitInfo]; (repeat (first | rfl | rw [if_pos (by omega)] | rw [if_neg (by omega)])); try (exfalso; omega)) (by omega)
          · refine x_iconst B dX7_unitInfo_61 ?_
            refine x_goto (tgt := 66) B dX7_unitInfo_62 (by decide) ?_
            exact x_retO B R dX7_unitInfo_66 (by simp only [o_unitInfo]; (repeat (first | rfl | rw [if_pos (by omega)] | rw [if_neg (by omega)])); try (exfalso; omega)) (by omega)
        · refine x_aload_n B dX7_unitInfo_44 rfl ?_
          refine x_iload_n B dX7_unitInfo_45 rfl ?_
          refine x_iload_n B dX7_unitInfo_46 rfl ?_
          refine x_mV B mvX7_51 (fun l => c_X7_ofUnit (by omega)) dX7_unitInfo_47 rfl rfl (by decide) (by decide) (Nat.le_of_ble_eq_true rfl) PM.rv (fun r47 => ?_)
          refine x_goto (tgt := 66) B dX7_unitInfo_50 (by decide) ?_
          exact x_retO B R dX7_unitInfo_66 (by simp only [o_unitInfo]; (repeat (first | rfl | rw [if_pos (by omega)] | rw [if_neg (by omega)])); try (exfalso; omega)) (by omega)
      · refine x_aload_n B dX7_unitInfo_25 rfl ?_
        refine x_iload_n B dX7_unitInfo_26 rfl ?_
        refine x_iconst B dX7_unitInfo_27 ?_
        refine x_mV B mvX7_51 (fun l => c_X7_ofUnit (by omega)) dX7_unitInfo_28 rfl rfl (by decide) (by decide) (Nat.le_of_ble_eq_true rfl) PM.rv (fun r28 => ?_)
        refine x_iconst B dX7_unitInfo_31 ?_
        refine x_icmp_ne (tgt := 38) B dX7_unitInfo_32 (by decide) (by omega) (by omega) (fun c32 => ?_) (fun c32 => ?_)
        · refine x_iload_n B dX7_unitInfo_38 rfl ?_
          refine x_bipush B dX7_unitInfo_39 (by decide) ?_
          refine x_icmp_ge (tgt := 53) B dX7_unitInfo_41 (by decide) (by omega) (by omega) (fun c41 => ?_) (fun c41 => ?_)
          · refine x_aload_n B dX7_unitInfo_53 rfl ?_
            refine x_iload_n B dX7_unitInfo_54 rfl ?_
            refine x_mZ B mvX7_82 (fun l => c_X7_isFree (by omega)) dX7_unitInfo_55 rfl rfl (by decide) (by decide) (Nat.le_of_ble_eq_true rfl) PM.rv ?_
            refine x_ifz_eq (tgt := 65) B dX7_unitInfo_58 (by decide) (fun c58 => ?_) (fun c58 => ?_)
            · refine x_iconst B dX7_unitInfo_65 ?_
              exact x_retO B R dX7_unitInfo_66 (by simp only [o_unitInfo]; (repeat (first | rfl | rw [if_pos (by omega)] | rw [if_neg (by omega)])); try (exfalso; omega)) (by omega)
            · refine x_iconst B dX7_unitInfo_61 ?_
              refine x_goto (tgt := 66) B dX7_unitInfo_62 (by decide) ?_
              exact x_retO B R dX7_unitInfo_66 (by simp only [o_unitInfo]; (repeat (first | rfl | rw [if_pos (by omega)] | rw [if_neg (by omega)])); try (exfalso; omega)) (by omega)
          · refine x_aload_n B dX7_unitInfo_44 rfl ?_
            refine x_iload_n B dX7_unitInfo_45 rfl ?_
            refine x_iload_n B dX7_unitInfo_46 rfl ?_
            refine x_mV B mvX7_51 (fun l => c_X7_ofUnit (by omega)) dX7_unitInfo_47 rfl rfl (by decide) (by decide) (Nat.le_of_ble_eq_true rfl) PM.rv (fun r47 => ?_)
            refine x_goto (tgt := 66) B dX7_unitInfo_50 (by decide) ?_
            exact x_retO B R dX7_unitInfo_66 (by simp only [o_unitInfo]; (repeat (first | rfl | rw [if_pos (by omega)] | rw [if_neg (by omega)])); try (exfalso; omega)) (by omega)
        · refine x_bipush B dX7_unitInfo_35 (by decide) ?_
          exact x_retO B R dX7_unitInfo_37 (by simp only [o_unitInfo]; (repeat (first | rfl | rw [if_pos (by omega)] | rw [if_neg (by omega)])); try (exfalso; omega)) (by omega)
    · refine x_iconst B dX7_unitInfo_18 ?_
      exact x_retO B R dX7_unitInfo_19 (by simp only [o_unitInfo]; (repeat (first | rfl | rw [if_pos (by omega)] | rw [if_neg (by omega)])); try (exfalso; omega)) (by omega)
def o_shared (m : Int → Int) (ρ : Nat → Int → Int) (k : Int) : xO :=
  if ¬ (0 ≤ k ∧ k ≤ 2) then (-1, m, ρ) else if m (53 + k) = -1 then (-4, m, ρ) else (m (53 + k), m, ρ)
theorem c_X7_shared {G : xG} {l : Launch} {b : Nat} {m : Int → Int} {ρ : Nat → Int → Int} {x : Int} (h3 : -2147483648 ≤ x ∧ x < 2147483648) : CT G l yX7_shared cX7_shared 2 (some .int) ({ frames := 1, cells := 0, slots := 0, locals := 22 } : Room) 0 0 [.ref b, vi x] (PM G b m ρ) (pI (o_shared m ρ x).1 (PM G b (o_shared m ρ x).2.1 (o_shared m ρ x).2.2)) (AM b) := by
  refine x_met1 (own := RX7) (nm := "shared") (L := [(0, .ref b), (1, vi x)]) (by decide) rfl rfl (fun _ => rfl) (Nat.le_of_ble_eq_true rfl) rfl rfl ?_
  intro Γ B R
  refine x_iload_n B dX7_shared_0 rfl ?_
  refine x_iconst B dX7_shared_1 ?_
  refine x_iconst B dX7_shared_2 ?_
  refine x_sZ B msX7_36 (fun l => c_X7_in (by omega) (by omega) (by omega)) dX7_shared_3 rfl rfl (by decide) (by decide) (Nat.le_of_ble_eq_true rfl) ?_
  refine x_ifz_ne (tgt := 11) B dX7_shared_6 (by decide) (fun c6 => ?_) (fun c6 => ?_)
  · refine x_aload_n B dX7_shared_11 rfl ?_
    refine x_get B fgX7_7 dX7_shared_12 (fun _ h => ⟨_, PM.o h, rfl⟩) ?_
    refine x_bipush B dX7_shared_15 (by decide) ?_
    refine x_iload_n B dX7_shared_17 rfl ?_
    refine x_iadd B dX7_shared_18 ?_
    refine x_ialdR B dX7_shared_19 (by omega) (by decide) PM.am (fun r19 => ?_)
    refine x_iconst B dX7_shared_20 ?_
    refine x_icmp_ne (tgt := 29) B dX7_shared_21 (by decide) (by omega) (by omega) (fun c21 => ?_) (fun c21 => ?_)
    · refine x_aload_n B dX7_shared_29 rfl ?_
      refine x_get B fgX7_7 dX7_shared_30 (fun _ h => ⟨_, PM.o h, rfl⟩) ?_
      refine x_bipush B dX7_shared_33 (by decide) ?_
      refine x_iload_n B dX7_shared_35 rfl ?_
      refine x_iadd B dX7_shared_36 ?_
      refine x_ialdR B dX7_shared_37 (by omega) (by decide) PM.am (fun r37 => ?_)
      exact x_retO B R dX7_shared_38 (by simp only [o_shared]; (repeat (first | rfl | rw [if_pos (by omega)] | rw [if_neg (by omega)])); try (exfalso; omega)) (by omega)
    · refine x_bipush B dX7_shared_24 (by decide) ?_
      refine x_goto (tgt := 38) B dX7_shared_26 (by decide) ?_
      exact x_retO B R dX7_shared_38 (by simp only [o_shared]; (repeat (first | rfl | rw [if_pos (by omega)] | rw [if_neg (by omega)])); try (exfalso; omega)) (by omega)
  · refine x_iconst B dX7_shared_9 ?_
    exact x_retO B R dX7_shared_10 (by simp only [o_shared]; (repeat (first | rfl | rw [if_pos (by omega)] | rw [if_neg (by omega)])); try (exfalso; omega)) (by omega)
def o_setCleaning (m : Int → Int) (ρ : Nat → Int → Int) (t : Int) : xO :=
  if ¬ (0 ≤ t ∧ t ≤ 30) then (-1, m, ρ) else (m 0, up m 0 t, s_keep m ρ)
theorem c_X7_setCleaning {G : xG} {l : Launch} {b : Nat} {m : Int → Int} {ρ : Nat → Int → Int} {W x : Int} (h1 : Iv m W) (h2 : Ir ρ) (h3 : -2147483648 ≤ x ∧ x < 2147483648) : CT G l yX7_setCleaning cX7_setCleaning 3 (some .int) ({ frames := 2, cells := 0, slots := 0, locals := 45 } : Room) 0 0 [.ref b, vi x] (PM G b m ρ) (pI (o_setCleaning m ρ x).1 (PM G b (o_setCleaning m ρ x).2.1 (o_setCleaning m ρ x).2.2)) (AM b) := by
  refine x_met1 (own := RX7) (nm := "setCleaning") (L := [(0, .ref b), (1, vi x)]) (by decide) rfl rfl (fun _ => rfl) (Nat.le_of_ble_eq_true rfl) rfl rfl ?_
  intro Γ B R
  have hn := h1.n
  have hr := h2.1
  refine x_iload_n B dX7_setCleaning_0 rfl ?_
  refine x_iconst B dX7_setCleaning_1 ?_
  refine x_bipush B dX7_setCleaning_2 (by decide) ?_
  refine x_sZ B msX7_36 (fun l => c_X7_in (by omega) (by omega) (by omega)) dX7_setCleaning_4 rfl rfl (by decide) (by decide) (Nat.le_of_ble_eq_true rfl) ?_
  refine x_ifz_ne (tgt := 12) B dX7_setCleaning_7 (by decide) (fun c7 => ?_) (fun c7 => ?_)
  · refine x_aload_n B dX7_setCleaning_12 rfl ?_
    refine x_mN B mvX7_44 (fun l => c_X7_keep (by omega)) dX7_setCleaning_13 rfl rfl (by decide) (by decide) (Nat.le_of_ble_eq_true rfl) PM.rv ?_
    refine x_aload_n B dX7_setCleaning_16 rfl ?_
    refine x_get B fgX7_7 dX7_setCleaning_17 (fun _ h => ⟨_, PM.o h, rfl⟩) ?_
    refine x_iconst B dX7_setCleaning_20 ?_
    refine x_ialdR B dX7_setCleaning_21 (by omega) (by decide) PM.am (fun r21 => ?_)
    refine x_istore_n B dX7_setCleaning_22 (by decide) ?_
    refine x_aload_n B dX7_setCleaning_23 rfl ?_
    refine x_get B fgX7_7 dX7_setCleaning_24 (fun _ h => ⟨_, PM.o h, rfl⟩) ?_
    refine x_iconst B dX7_setCleaning_27 ?_
    refine x_iload_n B dX7_setCleaning_28 rfl ?_
    refine x_iast B dX7_setCleaning_29 (by omega) (by decide) (by unfold AM; omega) (PM.sm (by omega)) ?_
    refine x_iload_n B dX7_setCleaning_30 rfl ?_
    exact x_retO B R dX7_setCleaning_31 (by simp only [o_setCleaning]; (repeat (first | rfl | rw [if_pos (by omega)] | rw [if_neg (by omega)])); try (exfalso; omega)) (by omega)
  · refine x_iconst B dX7_setCleaning_10 ?_
    exact x_retO B R dX7_setCleaning_11 (by simp only [o_setCleaning]; (repeat (first | rfl | rw [if_pos (by omega)] | rw [if_neg (by omega)])); try (exfalso; omega)) (by omega)
def o_versions (m : Int → Int) (ρ : Nat → Int → Int) (r : Int) : xO := if 0 ≤ r ∧ r ≤ 5 then (m (56 + r), m, ρ) else (-1, m, ρ)
theorem c_X7_versions {G : xG} {l : Launch} {b : Nat} {m : Int → Int} {ρ : Nat → Int → Int} {x : Int} (h3 : -2147483648 ≤ x ∧ x < 2147483648) : CT G l yX7_versions cX7_versions 2 (some .int) ({ frames := 2, cells := 0, slots := 0, locals := 42 } : Room) 0 0 [.ref b, vi x] (PM G b m ρ) (pI (o_versions m ρ x).1 (PM G b (o_versions m ρ x).2.1 (o_versions m ρ x).2.2)) (AM b) := by
  refine x_met1 (own := RX7) (nm := "versions") (L := [(0, .ref b), (1, vi x)]) (by decide) rfl rfl (fun _ => rfl) (Nat.le_of_ble_eq_true rfl) rfl rfl ?_
  intro Γ B R
  refine x_iload_n B dX7_versions_0 rfl ?_
  refine x_sZ B msX7_125 (fun l => c_X7_isRecipe (by omega)) dX7_versions_1 rfl rfl (by decide) (by decide) (Nat.le_of_ble_eq_true rfl) ?_
  refine x_ifz_eq (tgt := 19) B dX7_versions_4 (by decide) (fun c4 => ?_) (fun c4 => ?_)
  · refine x_iconst B dX7_versions_19 ?_
    exact x_retO B R dX7_versions_20 (by simp only [o_versions]; (repeat (first | rfl | rw [if_pos (by omega)] | rw [if_neg (by omega)])); try (exfalso; omega)) (by omega)
  · refine x_aload_n B dX7_versions_7 rfl ?_
    refine x_get B fgX7_7 dX7_versions_8 (fun _ h => ⟨_, PM.o h, rfl⟩) ?_
    refine x_bipush B dX7_versions_11 (by decide) ?_
    refine x_iload_n B dX7_versions_13 rfl ?_
    refine x_iadd B dX7_versions_14 ?_
    refine x_ialdR B dX7_versions_15 (by omega) (by decide) PM.am (fun r15 => ?_)
    refine x_goto (tgt := 20) B dX7_versions_16 (by decide) ?_
    exact x_retO B R dX7_versions_20 (by simp only [o_versions]; (repeat (first | rfl | rw [if_pos (by omega)] | rw [if_neg (by omega)])); try (exfalso; omega)) (by omega)
/-- a part of a packed phase, as 'phase' answers it -/
def prt (p w : Int) : Int := if w = 0 then p % 4 else if w = 1 then p / 4 % 128 else if w = 2 then (if p / 512 % 4 - 1 = -1 then -4 else p / 512 % 4 - 1) else if w = 3 then p / 2048 % 128 else p / 262144 % 2
theorem c_X7_partOf {G : xG} {l : Launch} {P : Heap → Prop} {A : Nat → Prop} {x w : Int} (h1 : 0 ≤ x ∧ x < 524288) (h2 : 0 ≤ w ∧ w ≤ 4) : CT G l yX7_partOf cX7_partOf 2 (some .int) ({ frames := 1, cells := 0, slots := 0, locals := 20 } : Room) 0 0 [vi x, vi w] P (pI (prt x w) P) A := by
  refine x_met1 (own := RX7) (nm := "partOf") (L := [(0, vi x), (1, vi w)]) (by decide) rfl rfl (fun _ => rfl) (Nat.le_of_ble_eq_true rfl) rfl rfl ?_
  intro Γ B R
  refine x_iload_n B dX7_partOf_0 rfl ?_
  refine x_tsw (tgt := 65) (tgs := [32, 37, 42, 60]) (n := 4) B dX7_partOf_1 (by decide) (by decide) rfl (by decide) (by omega) (fun s1 => ?_) (fun i1 l1 s1 => ?_)
  · refine x_iload_n B dX7_partOf_65 rfl ?_
    refine x_sV B msX7_143 (fun l => c_X7_markOf (by omega)) dX7_partOf_66 rfl rfl (by decide) (by decide) (Nat.le_of_ble_eq_true rfl) (fun r66 => ?_)
    exact x_retI B R dX7_partOf_69 (by unfold prt; repeat (first | rfl | rw [if_pos (by omega)] | rw [if_neg (by omega)])) (by unfold prt; (repeat' split) <;> omega) (fun H h => by exact h)
  · obtain rfl | rfl | rfl | rfl := (show i1 = 0 ∨ i1 = 1 ∨ i1 = 2 ∨ i1 = 3 by omega)
    · refine x_iload_n B dX7_partOf_32 rfl ?_
      refine x_sV B msX7_131 (fun l => c_X7_kindOf (by omega)) dX7_partOf_33 rfl rfl (by decide) (by decide) (Nat.le_of_ble_eq_true rfl) (fun r33 => ?_)
      exact x_retI B R dX7_partOf_36 (by unfold prt; repeat (first | rfl | rw [if_pos (by omega)] | rw [if_neg (by omega)])) (by unfold prt; (repeat' split) <;> omega) (fun H h => by exact h)
    · refine x_iload_n B dX7_partOf_37 rfl ?_
      refine x_sV B msX7_134 (fun l => c_X7_durationOf (by omega)) dX7_partOf_38 rfl rfl (by decide) (by decide) (Nat.le_of_ble_eq_true rfl) (fun r38 => ?_)
      exact x_retI B R dX7_partOf_41 (by unfold prt; repeat (first | rfl | rw [if_pos (by omega)] | rw [if_neg (by omega)])) (by unfold prt; (repeat' split) <;> omega) (fun H h => by exact h)
    · refine x_iload_n B dX7_partOf_42 rfl ?_
      refine x_sV B msX7_137 (fun l => c_X7_sharedOf (by omega)) dX7_partOf_43 rfl rfl (by decide) (by decide) (Nat.le_of_ble_eq_true rfl) (fun r43 => ?_)
      refine x_iconst B dX7_partOf_46 ?_
      refine x_icmp_ne (tgt := 55) B dX7_partOf_47 (by decide) (by omega) (by omega) (fun c47 => ?_) (fun c47 => ?_)
      · refine x_iload_n B dX7_partOf_55 rfl ?_
        refine x_sV B msX7_137 (fun l => c_X7_sharedOf (by omega)) dX7_partOf_56 rfl rfl (by decide) (by decide) (Nat.le_of_ble_eq_true rfl) (fun r56 => ?_)
        exact x_retI B R dX7_partOf_59 (by unfold prt; repeat (first | rfl | rw [if_pos (by omega)] | rw [if_neg (by omega)])) (by unfold prt; (repeat' split) <;> omega) (fun H h => by exact h)
      · refine x_bipush B dX7_partOf_50 (by decide) ?_
        refine x_goto (tgt := 59) B dX7_partOf_52 (by decide) ?_
        exact x_retI B R dX7_partOf_59 (by unfold prt; repeat (first | rfl | rw [if_pos (by omega)] | rw [if_neg (by omega)])) (by unfold prt; (repeat' split) <;> omega) (fun H h => by exact h)
    · refine x_iload_n B dX7_partOf_60 rfl ?_
      refine x_sV B msX7_140 (fun l => c_X7_yieldOf (by omega)) dX7_partOf_61 rfl rfl (by decide) (by decide) (Nat.le_of_ble_eq_true rfl) (fun r61 => ?_)
      exact x_retI B R dX7_partOf_64 (by unfold prt; repeat (first | rfl | rw [if_pos (by omega)] | rw [if_neg (by omega)])) (by unfold prt; (repeat' split) <;> omega) (fun H h => by exact h)
def o_phase (m : Int → Int) (ρ : Nat → Int → Int) (r v k w : Int) : xO :=
  if ¬ ((0 ≤ r ∧ r ≤ 5) ∧ (1 ≤ v ∧ v ≤ m (56 + r)) ∧ 0 ≤ k ∧ (0 ≤ w ∧ w ≤ 4)) then (-1, m, ρ) else if k < m (62 + 9 * r + v - 1) then (prt (m (116 + 8 * (9 * r + v - 1) + k)) w, m, ρ) else (-4, m, ρ)
theorem c_X7_phase {G : xG} {l : Launch} {b : Nat} {m : Int → Int} {ρ : Nat → Int → Int} {W r v k w : Int} (h1 : Iv m W) (h3 : -2147483648 ≤ r ∧ r < 2147483648) (h4 : -2147483648 ≤ v ∧ v < 2147483648) (h5 : -2147483648 ≤ k ∧ k < 2147483648) (h6 : -2147483648 ≤ w ∧ w < 2147483648) : CT G l yX7_phase cX7_phase 5 (some .int) ({ frames := 2, cells := 0, slots := 0, locals := 42 } : Room) 0 0 [.ref b, vi r, vi v, vi k, vi w] (PM G b m ρ) (pI (o_phase m ρ r v k w).1 (PM G b (o_phase m ρ r v k w).2.1 (o_phase m ρ r v k w).2.2)) (AM b) := by
  refine x_met1 (own := RX7) (nm := "phase") (L := [(0, .ref b), (1, vi r), (2, vi v), (3, vi k), (4, vi w)]) (by decide) rfl rfl (fun _ => rfl) (Nat.le_of_ble_eq_true rfl) rfl rfl ?_
  intro Γ B R
  refine x_iload_n B dX7_phase_0 rfl ?_
  refine x_sZ B msX7_125 (fun l => c_X7_isRecipe (by omega)) dX7_phase_1 rfl rfl (by decide) (by decide) (Nat.le_of_ble_eq_true rfl) ?_
  refine x_ifz_eq (tgt := 38) B dX7_phase_4 (by decide) (fun c4 => ?_) (fun c4 => ?_)
  · refine x_iconst B dX7_phase_38 ?_
    exact x_retO B R dX7_phase_39 (by simp only [o_phase]; (repeat (first | rfl | rw [if_pos (by omega)] | rw [if_neg (by omega)])); try (exfalso; omega)) (by omega)
  · refine x_iload_n B dX7_phase_7 rfl ?_
    refine x_iconst B dX7_phase_8 ?_
    refine x_aload_n B dX7_phase_9 rfl ?_
    refine x_get B fgX7_7 dX7_phase_10 (fun _ h => ⟨_, PM.o h, rfl⟩) ?_
    refine x_bipush B dX7_phase_13 (by decide) ?_
    refine x_iload_n B dX7_phase_15 rfl ?_
    refine x_iadd B dX7_phase_16 ?_
    refine x_ialdR B dX7_phase_17 (by omega) (by decide) PM.am (fun r17 => ?_)
    have hvs := h1.vs (r := r) (by omega) (by omega)
    refine x_sZ B msX7_36 (fun l => c_X7_in (by omega) (by omega) (by omega)) dX7_phase_18 rfl rfl (by decide) (by decide) (Nat.le_of_ble_eq_true rfl) ?_
    refine x_ifz_eq (tgt := 38) B dX7_phase_21 (by decide) (fun c21 => ?_) (fun c21 => ?_)
    · refine x_iconst B dX7_phase_38 ?_
      exact x_retO B R dX7_phase_39 (by simp only [o_phase]; (repeat (first | rfl | rw [if_pos (by omega)] | rw [if_neg (by omega)])); try (exfalso; omega)) (by omega)
    · refine x_iload_n B dX7_phase_24 rfl ?_
      refine x_if_lt (tgt := 38) B dX7_phase_25 (by decide) (by omega) (fun c25 => ?_) (fun c25 => ?_)
      · refine x_iconst B dX7_phase_38 ?_
        exact x_retO B R dX7_phase_39 (by simp only [o_phase]; (repeat (first | rfl | rw [if_pos (by omega)] | rw [if_neg (by omega)])); try (exfalso; omega)) (by omega)
      · refine x_iload B dX7_phase_28 rfl ?_
        refine x_iconst B dX7_phase_30 ?_
        refine x_iconst B dX7_phase_31 ?_
        refine x_sZ B msX7_36 (fun l => c_X7_in (by omega) (by omega) (by omega)) dX7_phase_32 rfl rfl (by decide) (by decide) (Nat.le_of_ble_eq_true rfl) ?_
        refine x_ifz_ne (tgt := 40) B dX7_phase_35 (by decide) (fun c35 => ?_) (fun c35 => ?_)
        · have hpg := (h1.pg (r := r) (v := v) (by omega) (by omega) (by omega) (by omega)).1
          have e62 : 62 + (9 * r + v - 1) = 62 + 9 * r + v - 1 := by omega
          rw [e62] at hpg
          refine x_iload_n B dX7_phase_40 rfl ?_
          refine x_aload_n B dX7_phase_41 rfl ?_
          refine x_iload_n B dX7_phase_42 rfl ?_
          refine x_iload_n B dX7_phase_43 rfl ?_
          refine x_mV B mvX7_146 (fun l => c_X7_phasesOf (by omega) (by omega)) dX7_phase_44 rfl rfl (by decide) (by decide) (Nat.le_of_ble_eq_true rfl) PM.rv (fun r44 => ?_)
          refine x_icmp_ge (tgt := 65) B dX7_phase_47 (by decide) (by omega) (by omega) (fun c47 => ?_) (fun c47 => ?_)
          · refine x_bipush B dX7_phase_65 (by decide) ?_
            exact x_retO B R dX7_phase_67 (by simp only [o_phase]; (repeat (first | rfl | rw [if_pos (by omega)] | rw [if_neg (by omega)])); try (exfalso; omega)) (by omega)
          · have hph := (h1.pg (r := r) (v := v) (by omega) (by omega) (by omega) (by omega)).2 k (by omega) (by rw [e62]; omega)
            unfold okP at hph
            refine x_aload_n B dX7_phase_50 rfl ?_
            refine x_iload_n B dX7_phase_51 rfl ?_
            refine x_iload_n B dX7_phase_52 rfl ?_
            refine x_iload_n B dX7_phase_53 rfl ?_
            refine x_mV B mvX7_85 (fun l => c_X7_phaseIn (by omega) (by omega) (by omega)) dX7_phase_54 rfl rfl (by decide) (by decide) (Nat.le_of_ble_eq_true rfl) PM.rv (fun r54 => ?_)
            refine x_iload B dX7_phase_57 rfl ?_
            refine x_sV B msX7_149 (fun l => c_X7_partOf (by omega) (by omega)) dX7_phase_59 rfl rfl (by decide) (by decide) (Nat.le_of_ble_eq_true rfl) (fun r59 => ?_)
            refine x_goto (tgt := 67) B dX7_phase_62 (by decide) ?_
            exact x_retO B R dX7_phase_67 (by simp only [o_phase]; (repeat (first | rfl | rw [if_pos (by omega)] | rw [if_neg (by omega)])); try (exfalso; omega)) (by omega)
        · refine x_iconst B dX7_phase_38 ?_
          exact x_retO B R dX7_phase_39 (by simp only [o_phase]; (repeat (first | rfl | rw [if_pos (by omega)] | rw [if_neg (by omega)])); try (exfalso; omega)) (by omega)
def o_start (m : Int → Int) (ρ : Nat → Int → Int) (b : Int) : xO :=
  if ¬ (0 ≤ b ∧ b ≤ m 3 - 1) then (-1, m, ρ) else if m (548 + 10 * b + 5) ≠ 0 then (-2, m, ρ) else
  let m1 := up m (548 + 10 * b + 5) 1
  (cntB m1 1 (m1 3).toNat, m1, s_keep m ρ)
theorem c_X7_start {G : xG} {l : Launch} {b : Nat} {m : Int → Int} {ρ : Nat → Int → Int} {W x : Int} (h1 : Iv m W) (h2 : Ir ρ) (h3 : -2147483648 ≤ x ∧ x < 2147483648) : CT G l yX7_start cX7_start 2 (some .int) ({ frames := 2, cells := 0, slots := 0, locals := 45 } : Room) 0 0 [.ref b, vi x] (PM G b m ρ) (pI (o_start m ρ x).1 (PM G b (o_start m ρ x).2.1 (o_start m ρ x).2.2)) (AM b) := by
  refine x_met1 (own := RX7) (nm := "start") (L := [(0, .ref b), (1, vi x)]) (by decide) rfl rfl (fun _ => rfl) (Nat.le_of_ble_eq_true rfl) rfl rfl ?_
  intro Γ B R
  have hn := h1.n
  have hr := h2.1
  refine x_aload_n B dX7_start_0 rfl ?_
  refine x_iload_n B dX7_start_1 rfl ?_
  refine x_mZ B mvX7_152 (fun l => c_X7_isBatch (by omega) (by omega)) dX7_start_2 rfl rfl (by decide) (by decide) (Nat.le_of_ble_eq_true rfl) PM.rv ?_
  refine x_ifz_ne (tgt := 10) B dX7_start_5 (by decide) (fun c5 => ?_) (fun c5 => ?_)
  · have e3 : up m (548 + 10 * x + 5) 1 3 = m 3 := up_ne (by omega)
    refine x_aload_n B dX7_start_10 rfl ?_
    refine x_iload_n B dX7_start_11 rfl ?_
    refine x_iconst B dX7_start_12 ?_
    refine x_mV B mvX7_40 (fun l => c_X7_of (by omega)) dX7_start_13 rfl rfl (by decide) (by decide) (Nat.le_of_ble_eq_true rfl) PM.rv (fun r13 => ?_)
    refine x_if_eq (tgt := 22) B dX7_start_16 (by decide) (by omega) (fun c16 => ?_) (fun c16 => ?_)
    · refine x_aload_n B dX7_start_22 rfl ?_
      refine x_mN B mvX7_44 (fun l => c_X7_keep (by omega)) dX7_start_23 rfl rfl (by decide) (by decide) (Nat.le_of_ble_eq_true rfl) PM.rv ?_
      refine x_aload_n B dX7_start_26 rfl ?_
      refine x_iload_n B dX7_start_27 rfl ?_
      refine x_iconst B dX7_start_28 ?_
      refine x_iconst B dX7_start_29 ?_
      refine x_mN B mvX7_54 (fun l => c_X7_put (by omega) (by omega)) dX7_start_30 rfl rfl (by decide) (by decide) (Nat.le_of_ble_eq_true rfl) PM.rv ?_
      refine x_aload_n B dX7_start_33 rfl ?_
      refine x_iconst B dX7_start_34 ?_
      refine x_mV B mvX7_161 (fun l => c_X7_many (by omega) (by omega)) dX7_start_35 rfl rfl (by decide) (by decide) (Nat.le_of_ble_eq_true rfl) PM.rv (fun r35 => ?_)
      exact x_retO B R dX7_start_38 (by simp only [o_start]; (repeat (first | rfl | rw [if_pos (by omega)] | rw [if_neg (by omega)])); try (exfalso; omega)) (by omega)
    · refine x_bipush B dX7_start_19 (by decide) ?_
      exact x_retO B R dX7_start_21 (by simp only [o_start]; (repeat (first | rfl | rw [if_pos (by omega)] | rw [if_neg (by omega)])); try (exfalso; omega)) (by omega)
  · refine x_iconst B dX7_start_8 ?_
    exact x_retO B R dX7_start_9 (by simp only [o_start]; (repeat (first | rfl | rw [if_pos (by omega)] | rw [if_neg (by omega)])); try (exfalso; omega)) (by omega)
def o_hold (m : Int → Int) (ρ : Nat → Int → Int) (b : Int) : xO :=
  if ¬ (0 ≤ b ∧ b ≤ m 3 - 1) then (-1, m, ρ) else if ¬ (m (548 + 10 * b + 5) = 1 ∨ m (548 + 10 * b + 5) = 3) then (-2, m, ρ) else
  let m1 := s_holds m b
  (cntB m1 2 (m1 3).toNat, m1, s_keep m ρ)
theorem s_note_ne {m : Int → Int} {b w k : Int} (h : k < 668 ∨ 788 ≤ k) (h4 : k ≠ 4) : s_note m b w k = m k := by
  unfold s_note
  rw [if_neg (by omega), if_neg h4]
theorem s_holds_ne {m : Int → Int} {b k : Int} (hb : 0 ≤ b) (h : k < 53 ∨ 56 ≤ k) (h2 : k < 668 ∨ 788 ≤ k) (h4 : k ≠ 4) (h5 : k ≠ 548 + 10 * b + 5) : s_holds m b k = m k := by
  unfold s_holds
  rw [s_note_ne h2 h4, up_ne h5, s_relS_ne (by omega)]
theorem c_X7_hold {G : xG} {l : Launch} {b : Nat} {m : Int → Int} {ρ : Nat → Int → Int} {W x : Int} (h1 : Iv m W) (h2 : Ir ρ) (h3 : -2147483648 ≤ x ∧ x < 2147483648) : CT G l yX7_hold cX7_hold 2 (some .int) ({ frames := 2, cells := 0, slots := 0, locals := 45 } : Room) 0 0 [.ref b, vi x] (PM G b m ρ) (pI (o_hold m ρ x).1 (PM G b (o_hold m ρ x).2.1 (o_hold m ρ x).2.2)) (AM b) := by
  refine x_met1 (own := RX7) (nm := "hold") (L := [(0, .ref b), (1, vi x)]) (by decide) rfl rfl (fun _ => rfl) (Nat.le_of_ble_eq_true rfl) rfl rfl ?_
  intro Γ B R
  have hn := h1.n
  have hr := h2.1
  refine x_aload_n B dX7_hold_0 rfl ?_
  refine x_iload_n B dX7_hold_1 rfl ?_
  refine x_mZ B mvX7_152 (fun l => c_X7_isBatch (by omega) (by omega)) dX7_hold_2 rfl rfl (by decide) (by decide) (Nat.le_of_ble_eq_true rfl) PM.rv ?_
  refine x_ifz_ne (tgt := 10) B dX7_hold_5 (by decide) (fun c5 => ?_) (fun c5 => ?_)
  · have e3 : s_holds m x 3 = m 3 := s_holds_ne (by omega) (by omega) (by omega) (by omega) (by omega)
    refine x_aload_n B dX7_hold_10 rfl ?_
    refine x_iload_n B dX7_hold_11 rfl ?_
    refine x_mZ B mvX7_72 (fun l => c_X7_isActive (by omega)) dX7_hold_12 rfl rfl (by decide) (by decide) (Nat.le_of_ble_eq_true rfl) PM.rv ?_
    refine x_ifz_ne (tgt := 21) B dX7_hold_15 (by decide) (fun c15 => ?_) (fun c15 => ?_)
    · refine x_aload_n B dX7_hold_21 rfl ?_
      refine x_mN B mvX7_44 (fun l => c_X7_keep (by omega)) dX7_hold_22 rfl rfl (by decide) (by decide) (Nat.le_of_ble_eq_true rfl) PM.rv ?_
      refine x_aload_n B dX7_hold_25 rfl ?_
      refine x_iload_n B dX7_hold_26 rfl ?_
      refine x_mN B mvX7_75 (fun l => c_X7_holds (by omega) (by omega)) dX7_hold_27 rfl rfl (by decide) (by decide) (Nat.le_of_ble_eq_true rfl) PM.rv ?_
      refine x_aload_n B dX7_hold_30 rfl ?_
      refine x_iconst B dX7_hold_31 ?_
      refine x_mV B mvX7_161 (fun l => c_X7_many (by omega) (by omega)) dX7_hold_32 rfl rfl (by decide) (by decide) (Nat.le_of_ble_eq_true rfl) PM.rv (fun r32 => ?_)
      exact x_retO B R dX7_hold_35 (by simp only [o_hold]; (repeat (first | rfl | rw [if_pos (by omega)] | rw [if_neg (by omega)])); try (exfalso; omega)) (by omega)
    · refine x_bipush B dX7_hold_18 (by decide) ?_
      exact x_retO B R dX7_hold_20 (by simp only [o_hold]; (repeat (first | rfl | rw [if_pos (by omega)] | rw [if_neg (by omega)])); try (exfalso; omega)) (by omega)
  · refine x_iconst B dX7_hold_8 ?_
    exact x_retO B R dX7_hold_9 (by simp only [o_hold]; (repeat (first | rfl | rw [if_pos (by omega)] | rw [if_neg (by omega)])); try (exfalso; omega)) (by omega)
def s_restart (m : Int → Int) (b : Int) : Int → Int :=
  let m1 := up m (548 + 10 * b + 5) 1
  s_note (up m1 (548 + 10 * b + 7) (if phB m1 b (m1 (548 + 10 * b + 6)) / 262144 % 2 = 1 then 0 else m1 (548 + 10 * b + 7))) b 3
def o_restart (m : Int → Int) (ρ : Nat → Int → Int) (b : Int) : xO :=
  if ¬ (0 ≤ b ∧ b ≤ m 3 - 1) then (-1, m, ρ) else
  let u := m (548 + 10 * b + 8)
  if m (548 + 10 * b + 5) ≠ 2 ∨ (u ≠ -1 ∧ m (5 + 6 * u + 3) = 1) then (-2, m, ρ) else
  let m1 := s_restart m b
  (phB m1 b (m1 (548 + 10 * b + 6)) / 4 % 128 - m1 (548 + 10 * b + 7), m1, s_keep m ρ)
def o_priority (m : Int → Int) (ρ : Nat → Int → Int) (b v : Int) : xO :=
  if ¬ ((0 ≤ b ∧ b ≤ m 3 - 1) ∧ (0 ≤ v ∧ v ≤ 9)) then (-1, m, ρ) else (m (548 + 10 * b + 3), up m (548 + 10 * b + 3) v, s_keep m ρ)
theorem c_X7_priority {G : xG} {l : Launch} {b : Nat} {m : Int → Int} {ρ : Nat → Int → Int} {W x y : Int} (h1 : Iv m W) (h2 : Ir ρ) (h3 : -2147483648 ≤ x ∧ x < 2147483648) (h4 : -2147483648 ≤ y ∧ y < 2147483648) : CT G l yX7_priority cX7_priority 4 (some .int) ({ frames := 2, cells := 0, slots := 0, locals := 45 } : Room) 0 0 [.ref b, vi x, vi y] (PM G b m ρ) (pI (o_priority m ρ x y).1 (PM G b (o_priority m ρ x y).2.1 (o_priority m ρ x y).2.2)) (AM b) := by
  refine x_met1 (own := RX7) (nm := "priority") (L := [(0, .ref b), (1, vi x), (2, vi y)]) (by decide) rfl rfl (fun _ => rfl) (Nat.le_of_ble_eq_true rfl) rfl rfl ?_
  intro Γ B R
  have hn := h1.n
  have hr := h2.1
  refine x_aload_n B dX7_priority_0 rfl ?_
  refine x_iload_n B dX7_priority_1 rfl ?_
  refine x_mZ B mvX7_152 (fun l => c_X7_isBatch (by omega) (by omega)) dX7_priority_2 rfl rfl (by decide) (by decide) (Nat.le_of_ble_eq_true rfl) PM.rv ?_
  refine x_ifz_eq (tgt := 18) B dX7_priority_5 (by decide) (fun c5 => ?_) (fun c5 => ?_)
  · refine x_iconst B dX7_priority_18 ?_
    exact x_retO B R dX7_priority_19 (by simp only [o_priority]; (repeat (first | rfl | rw [if_pos (by omega)] | rw [if_neg (by omega)])); try (exfalso; omega)) (by omega)
  · refine x_iload_n B dX7_priority_8 rfl ?_
    refine x_iconst B dX7_priority_9 ?_
    refine x_bipush B dX7_priority_10 (by decide) ?_
    refine x_sZ B msX7_36 (fun l => c_X7_in (by omega) (by omega) (by omega)) dX7_priority_12 rfl rfl (by decide) (by decide) (Nat.le_of_ble_eq_true rfl) ?_
    refine x_ifz_ne (tgt := 20) B dX7_priority_15 (by decide) (fun c15 => ?_) (fun c15 => ?_)
    · refine x_aload_n B dX7_priority_20 rfl ?_
      refine x_mN B mvX7_44 (fun l => c_X7_keep (by omega)) dX7_priority_21 rfl rfl (by decide) (by decide) (Nat.le_of_ble_eq_true rfl) PM.rv ?_
      refine x_aload_n B dX7_priority_24 rfl ?_
      refine x_iload_n B dX7_priority_25 rfl ?_
      refine x_iconst B dX7_priority_26 ?_
      refine x_mV B mvX7_40 (fun l => c_X7_of (by omega)) dX7_priority_27 rfl rfl (by decide) (by decide) (Nat.le_of_ble_eq_true rfl) PM.rv (fun r27 => ?_)
      refine x_istore_n B dX7_priority_30 (by decide) ?_
      refine x_aload_n B dX7_priority_31 rfl ?_
      refine x_iload_n B dX7_priority_32 rfl ?_
      refine x_iconst B dX7_priority_33 ?_
      refine x_iload_n B dX7_priority_34 rfl ?_
      refine x_mN B mvX7_54 (fun l => c_X7_put (by omega) (by omega)) dX7_priority_35 rfl rfl (by decide) (by decide) (Nat.le_of_ble_eq_true rfl) PM.rv ?_
      refine x_iload_n B dX7_priority_38 rfl ?_
      exact x_retO B R dX7_priority_39 (by simp only [o_priority]; (repeat (first | rfl | rw [if_pos (by omega)] | rw [if_neg (by omega)])); try (exfalso; omega)) (by omega)
    · refine x_iconst B dX7_priority_18 ?_
      exact x_retO B R dX7_priority_19 (by simp only [o_priority]; (repeat (first | rfl | rw [if_pos (by omega)] | rw [if_neg (by omega)])); try (exfalso; omega)) (by omega)
def o_event (m : Int → Int) (ρ : Nat → Int → Int) (i w : Int) : xO :=
  if ¬ (0 ≤ i ∧ (0 ≤ w ∧ w ≤ 2)) then (-1, m, ρ) else if i < m 4 then (m (668 + 3 * i + w), m, ρ) else (-4, m, ρ)
theorem c_X7_event {G : xG} {l : Launch} {b : Nat} {m : Int → Int} {ρ : Nat → Int → Int} {W x y : Int} (h1 : Iv m W) (h3 : -2147483648 ≤ x ∧ x < 2147483648) (h4 : -2147483648 ≤ y ∧ y < 2147483648) : CT G l yX7_event cX7_event 3 (some .int) ({ frames := 1, cells := 0, slots := 0, locals := 22 } : Room) 0 0 [.ref b, vi x, vi y] (PM G b m ρ) (pI (o_event m ρ x y).1 (PM G b (o_event m ρ x y).2.1 (o_event m ρ x y).2.2)) (AM b) := by
  refine x_met1 (own := RX7) (nm := "event") (L := [(0, .ref b), (1, vi x), (2, vi y)]) (by decide) rfl rfl (fun _ => rfl) (Nat.le_of_ble_eq_true rfl) rfl rfl ?_
  intro Γ B R
  have hn := h1.n
  refine x_iload_n B dX7_event_0 rfl ?_
  refine x_if_lt (tgt := 13) B dX7_event_1 (by decide) (by omega) (fun c1 => ?_) (fun c1 => ?_)
  · refine x_iconst B dX7_event_13 ?_
    exact x_retO B R dX7_event_14 (by simp only [o_event]; (repeat (first | rfl | rw [if_pos (by omega)] | rw [if_neg (by omega)])); try (exfalso; omega)) (by omega)
  · refine x_iload_n B dX7_event_4 rfl ?_
    refine x_iconst B dX7_event_5 ?_
    refine x_iconst B dX7_event_6 ?_
    refine x_sZ B msX7_36 (fun l => c_X7_in (by omega) (by omega) (by omega)) dX7_event_7 rfl rfl (by decide) (by decide) (Nat.le_of_ble_eq_true rfl) ?_
    refine x_ifz_ne (tgt := 15) B dX7_event_10 (by decide) (fun c10 => ?_) (fun c10 => ?_)
    · refine x_iload_n B dX7_event_15 rfl ?_
      refine x_aload_n B dX7_event_16 rfl ?_
      refine x_get B fgX7_7 dX7_event_17 (fun _ h => ⟨_, PM.o h, rfl⟩) ?_
      refine x_iconst B dX7_event_20 ?_
      refine x_ialdR B dX7_event_21 (by omega) (by decide) PM.am (fun r21 => ?_)
      refine x_icmp_ge (tgt := 42) B dX7_event_22 (by decide) (by omega) (by omega) (fun c22 => ?_) (fun c22 => ?_)
      · refine x_bipush B dX7_event_42 (by decide) ?_
        exact x_retO B R dX7_event_44 (by simp only [o_event]; (repeat (first | rfl | rw [if_pos (by omega)] | rw [if_neg (by omega)])); try (exfalso; omega)) (by omega)
      · refine x_aload_n B dX7_event_25 rfl ?_
        refine x_get B fgX7_7 dX7_event_26 (fun _ h => ⟨_, PM.o h, rfl⟩) ?_
        refine x_sipush B dX7_event_29 (by decide) ?_
        refine x_iconst B dX7_event_32 ?_
        refine x_iload_n B dX7_event_33 rfl ?_
        refine x_imul B dX7_event_34 ?_
        refine x_iadd B dX7_event_35 ?_
        refine x_iload_n B dX7_event_36 rfl ?_
        refine x_iadd B dX7_event_37 ?_
        refine x_ialdR B dX7_event_38 (by omega) (by decide) PM.am (fun r38 => ?_)
        refine x_goto (tgt := 44) B dX7_event_39 (by decide) ?_
        exact x_retO B R dX7_event_44 (by simp only [o_event]; (repeat (first | rfl | rw [if_pos (by omega)] | rw [if_neg (by omega)])); try (exfalso; omega)) (by omega)
    · refine x_iconst B dX7_event_13 ?_
      exact x_retO B R dX7_event_14 (by simp only [o_event]; (repeat (first | rfl | rw [if_pos (by omega)] | rw [if_neg (by omega)])); try (exfalso; omega)) (by omega)
-- how the parts of a batch fare when other cells change
theorem pgB_eq {m m' : Int → Int} {b : Int} (h0 : m' (548 + 10 * b + 0) = m (548 + 10 * b + 0)) (h1 : m' (548 + 10 * b + 1) = m (548 + 10 * b + 1)) : pgB m' b = pgB m b := by
  unfold pgB
  rw [h0, h1]
theorem okB_pg {m : Int → Int} {W b : Int} (h : Iv m W) (h0 : 0 ≤ b) (h1 : b < m 3) : 0 ≤ pgB m b ∧ pgB m b < 54 ∧ okV m (pgB m b) := by
  have hb := h.b h0 h1
  unfold okB at hb
  have hv := h.vs (r := m (548 + 10 * b + 0)) (by omega) (by omega)
  have hp := h.pg (r := m (548 + 10 * b + 0)) (v := m (548 + 10 * b + 1)) (by omega) (by omega) (by omega) (by omega)
  unfold pgB
  exact ⟨by omega, by omega, hp⟩
theorem okB_ph {m : Int → Int} {W b k : Int} (h : Iv m W) (h0 : 0 ≤ b) (h1 : b < m 3) (h2 : 0 ≤ k) (h3 : k < lnB m b) : okP (phB m b k) := by
  obtain ⟨g1, g2, g3⟩ := okB_pg h h0 h1
  exact g3.2 k h2 h3
theorem lnB_rg {m : Int → Int} {W b : Int} (h : Iv m W) (h0 : 0 ≤ b) (h1 : b < m 3) : 1 ≤ lnB m b ∧ lnB m b ≤ 8 := (okB_pg h h0 h1).2.2.1
theorem phB_up {m : Int → Int} {b k p v : Int} (h : 548 ≤ p) (hp : p ≠ 548 + 10 * b + 0) (hp1 : p ≠ 548 + 10 * b + 1) (hg : 0 ≤ pgB m b ∧ pgB m b < 54) (hk : 0 ≤ k ∧ k < 8) : phB (up m p v) b k = phB m b k := by
  unfold phB
  rw [pgB_eq (m := m) (up_ne (by omega)) (up_ne (by omega)), up_ne (by omega)]
theorem phB_note {m : Int → Int} {b k x w : Int} (hb : 0 ≤ b ∧ b < 12) (hg : 0 ≤ pgB m b ∧ pgB m b < 54) (hk : 0 ≤ k ∧ k < 8) : phB (s_note m x w) b k = phB m b k := by
  unfold phB
  rw [pgB_eq (m := m) (s_note_ne (by omega) (by omega)) (s_note_ne (by omega) (by omega)), s_note_ne (by omega) (by omega)]
theorem c_X7_restart {G : xG} {l : Launch} {b : Nat} {m : Int → Int} {ρ : Nat → Int → Int} {W x : Int} (h1 : Iv m W) (h2 : Ir ρ) (h3 : -2147483648 ≤ x ∧ x < 2147483648) : CT G l yX7_restart cX7_restart 3 (some .int) ({ frames := 4, cells := 0, slots := 0, locals := 87 } : Room) 0 0 [.ref b, vi x] (PM G b m ρ) (pI (o_restart m ρ x).1 (PM G b (o_restart m ρ x).2.1 (o_restart m ρ x).2.2)) (AM b) := by
  refine x_met1 (own := RX7) (nm := "restart") (L := [(0, .ref b), (1, vi x)]) (by decide) rfl rfl (fun _ => rfl) (Nat.le_of_ble_eq_true rfl) rfl rfl ?_
  intro Γ B R
  have hn := h1.n
  have hr := h2.1
  have facts : 0 ≤ x ∧ x ≤ m 3 - 1 → okB m x ∧ m (56 + m (548 + 10 * x + 0)) ≤ 9 ∧ (1 ≤ lnB m x ∧ lnB m x ≤ 8) ∧ (0 ≤ pgB m x ∧ pgB m x < 54) ∧ (m (548 + 10 * x + 6) < lnB m x → okP (phB m x (m (548 + 10 * x + 6))) ∧ phB (up m (548 + 10 * x + 5) 1) x (m (548 + 10 * x + 6)) = phB m x (m (548 + 10 * x + 6))) := by
    intro hx
    have hb := h1.b (b := x) (by omega) (by omega)
    have hv := h1.vs (r := m (548 + 10 * x + 0)) (by unfold okB at hb; omega) (by unfold okB at hb; omega)
    have hl := lnB_rg h1 (b := x) (by omega) (by omega)
    obtain ⟨g1, g2, -⟩ := okB_pg h1 (b := x) (by omega) (by omega)
    refine ⟨hb, hv.2, hl, ⟨g1, g2⟩, fun h6 => ?_⟩
    unfold okB at hb
    exact ⟨okB_ph h1 (by omega) (by omega) (by omega) h6, phB_up (by omega) (by omega) (by omega) ⟨g1, g2⟩ (by omega)⟩
  have e0 : ∀ v w, (up (up m (548 + 10 * x + 5) 1) (548 + 10 * x + 7) v) (548 + 10 * x + w) = if w = 7 then v else if w = 5 then 1 else m (548 + 10 * x + w) := fun v w => by
    unfold up
    (repeat' split) <;> first | rfl | omega
  have tail : (0 ≤ x ∧ x ≤ m 3 - 1) → m (548 + 10 * x + 5) = 2 → ¬ (m (548 + 10 * x + 8) ≠ -1 ∧ m (5 + 6 * m (548 + 10 * x + 8) + 3) = 1) → ∀ v : Int, (0 ≤ v ∧ v < 99) → v = (if phB (up m (548 + 10 * x + 5) 1) x ((up m (548 + 10 * x + 5) 1) (548 + 10 * x + 6)) / 262144 % 2 = 1 then 0 else (up m (548 + 10 * x + 5) 1) (548 + 10 * x + 7)) →
      XJ Γ 0 0 (PM G b (up m (548 + 10 * x + 5) 1) (s_keep m ρ)) 84 [(0, .ref b), (1, vi x), (2, vi (m (548 + 10 * x + 8)))] [vi v, vi 7, vi x, .ref b] := by
    intro hx h5 hu v hv ev
    obtain ⟨hb, hvs, hl, hg, hp⟩ := facts hx
    unfold okB at hb
    obtain ⟨hq, ep⟩ := hp (by omega)
    unfold okP at hq
    have eS : s_restart m x = s_note (up (up m (548 + 10 * x + 5) 1) (548 + 10 * x + 7) v) x 3 := by
      simp only [s_restart]
      rw [← ev]
    have e4 : (up (up m (548 + 10 * x + 5) 1) (548 + 10 * x + 7) v) 4 = m 4 := by
      rw [up_ne (by omega), up_ne (by omega)]
    have f : ∀ w, 0 ≤ w → w < 10 → s_restart m x (548 + 10 * x + w) = if w = 7 then v else if w = 5 then 1 else m (548 + 10 * x + w) := fun w h0 h9 => by
      rw [eS, s_note_ne (by omega) (by omega), e0]
    have f0 := f 0 (by omega) (by omega)
    have f1 := f 1 (by omega) (by omega)
    have f6 := f 6 (by omega) (by omega)
    have f7 := f 7 (by omega) (by omega)
    simp only [show (0 : Int) ≠ 7 by decide, show (0 : Int) ≠ 5 by decide, show (1 : Int) ≠ 7 by decide, show (1 : Int) ≠ 5 by decide, show (6 : Int) ≠ 7 by decide, show (6 : Int) ≠ 5 by decide, if_false, if_true] at f0 f1 f6 f7
    have fp : phB (s_restart m x) x (s_restart m x (548 + 10 * x + 6)) = phB m x (m (548 + 10 * x + 6)) := by
      rw [f6]
      rw [eS, phB_note (by omega) (by rw [pgB_eq (m := m) (by rw [e0]; rfl) (by rw [e0]; rfl)]; exact hg) (by omega)]
      rw [phB_up (by omega) (by omega) (by omega) (by rw [pgB_eq (m := m) (up_ne (by omega)) (up_ne (by omega))]; exact hg) (by omega)]
      exact ep
    refine x_mN B mvX7_54 (fun l => c_X7_put (by omega) (by omega)) dX7_restart_84 rfl rfl (by decide) (by decide) (Nat.le_of_ble_eq_true rfl) PM.rv ?_
    refine x_aload_n B dX7_restart_87 rfl ?_
    refine x_iload_n B dX7_restart_88 rfl ?_
    refine x_iconst B dX7_restart_89 ?_
    refine x_mN B mvX7_64 (fun l => c_X7_note (by omega) (by omega) (by omega)) dX7_restart_90 rfl rfl (by decide) (by decide) (Nat.le_of_ble_eq_true rfl) PM.rv ?_
    rw [← eS]
    refine x_aload_n B dX7_restart_93 rfl ?_
    refine x_iload_n B dX7_restart_94 rfl ?_
    refine x_mV B mvX7_167 (fun l => c_X7_left (by omega) (by omega) (by omega) (by omega) (by omega) (by omega)) dX7_restart_95 rfl rfl (by decide) (by decide) (Nat.le_of_ble_eq_true rfl) PM.rv (fun r95 => ?_)
    exact x_retO B R dX7_restart_98 (by simp only [o_restart]; (repeat (first | rfl | rw [if_pos (by omega)] | rw [if_neg (by omega)])); try (exfalso; omega)) (by omega)
  refine x_aload_n B dX7_restart_0 rfl ?_
  refine x_iload_n B dX7_restart_1 rfl ?_
  refine x_mZ B mvX7_152 (fun l => c_X7_isBatch (by omega) (by omega)) dX7_restart_2 rfl rfl (by decide) (by decide) (Nat.le_of_ble_eq_true rfl) PM.rv ?_
  refine x_ifz_ne (tgt := 10) B dX7_restart_5 (by decide) (fun c5 => ?_) (fun c5 => ?_)
  · obtain ⟨hb, hvs, hl, hg, hp⟩ := facts c5
    unfold okB at hb
    have e6 : up m (548 + 10 * x + 5) 1 (548 + 10 * x + 6) = m (548 + 10 * x + 6) := up_ne (by omega)
    have e7 : up m (548 + 10 * x + 5) 1 (548 + 10 * x + 7) = m (548 + 10 * x + 7) := up_ne (by omega)
    have e0' : up m (548 + 10 * x + 5) 1 (548 + 10 * x + 0) = m (548 + 10 * x + 0) := up_ne (by omega)
    have e1' : up m (548 + 10 * x + 5) 1 (548 + 10 * x + 1) = m (548 + 10 * x + 1) := up_ne (by omega)
    have e4 : up m (548 + 10 * x + 5) 1 4 = m 4 := up_ne (by omega)
    refine x_aload_n B dX7_restart_10 rfl ?_
    refine x_iload_n B dX7_restart_11 rfl ?_
    refine x_bipush B dX7_restart_12 (by decide) ?_
    refine x_mV B mvX7_40 (fun l => c_X7_of (by omega)) dX7_restart_14 rfl rfl (by decide) (by decide) (Nat.le_of_ble_eq_true rfl) PM.rv (fun r14 => ?_)
    refine x_istore_n B dX7_restart_17 (by decide) ?_
    refine x_aload_n B dX7_restart_18 rfl ?_
    refine x_iload_n B dX7_restart_19 rfl ?_
    refine x_iconst B dX7_restart_20 ?_
    refine x_mV B mvX7_40 (fun l => c_X7_of (by omega)) dX7_restart_21 rfl rfl (by decide) (by decide) (Nat.le_of_ble_eq_true rfl) PM.rv (fun r21 => ?_)
    refine x_iconst B dX7_restart_24 ?_
    refine x_icmp_ne (tgt := 43) B dX7_restart_25 (by decide) (by omega) (by omega) (fun c25 => ?_) (fun c25 => ?_)
    · refine x_bipush B dX7_restart_43 (by decide) ?_
      exact x_retO B R dX7_restart_45 (by simp only [o_restart]; (repeat (first | rfl | rw [if_pos (by omega)] | rw [if_neg (by omega)])); try (exfalso; omega)) (by omega)
    · obtain ⟨hq, ep⟩ := hp (by omega)
      unfold okP at hq
      refine x_iload_n B dX7_restart_28 rfl ?_
      refine x_iconst B dX7_restart_29 ?_
      refine x_icmp_eq (tgt := 46) B dX7_restart_30 (by decide) (by omega) (by omega) (fun c30 => ?_) (fun c30 => ?_)
      · refine x_aload_n B dX7_restart_46 rfl ?_
        refine x_mN B mvX7_44 (fun l => c_X7_keep (by omega)) dX7_restart_47 rfl rfl (by decide) (by decide) (Nat.le_of_ble_eq_true rfl) PM.rv ?_
        refine x_aload_n B dX7_restart_50 rfl ?_
        refine x_iload_n B dX7_restart_51 rfl ?_
        refine x_iconst B dX7_restart_52 ?_
        refine x_iconst B dX7_restart_53 ?_
        refine x_mN B mvX7_54 (fun l => c_X7_put (by omega) (by omega)) dX7_restart_54 rfl rfl (by decide) (by decide) (Nat.le_of_ble_eq_true rfl) PM.rv ?_
        refine x_aload_n B dX7_restart_57 rfl ?_
        refine x_iload_n B dX7_restart_58 rfl ?_
        refine x_bipush B dX7_restart_59 (by decide) ?_
        refine x_aload_n B dX7_restart_61 rfl ?_
        refine x_iload_n B dX7_restart_62 rfl ?_
        refine x_mV B mvX7_164 (fun l => c_X7_phaseNow (by omega) (by omega) (by omega) (by omega)) dX7_restart_63 rfl rfl (by decide) (by decide) (Nat.le_of_ble_eq_true rfl) PM.rv (fun r63 => ?_)
        refine x_sV B msX7_143 (fun l => c_X7_markOf (by (rw [e6, ep]; omega))) dX7_restart_66 rfl rfl (by decide) (by decide) (Nat.le_of_ble_eq_true rfl) (fun r66 => ?_)
        refine x_iconst B dX7_restart_69 ?_
        refine x_icmp_ne (tgt := 77) B dX7_restart_70 (by decide) (by omega) (by omega) (fun c70 => ?_) (fun c70 => ?_)
        · refine x_aload_n B dX7_restart_77 rfl ?_
          refine x_iload_n B dX7_restart_78 rfl ?_
          refine x_bipush B dX7_restart_79 (by decide) ?_
          refine x_mV B mvX7_40 (fun l => c_X7_of (by omega)) dX7_restart_81 rfl rfl (by decide) (by decide) (Nat.le_of_ble_eq_true rfl) PM.rv (fun r81 => ?_)
          exact tail c5 c25 (by omega) _ (by omega) (by first | rw [if_pos (by omega)] | rw [if_neg (by omega)])
        · refine x_iconst B dX7_restart_73 ?_
          refine x_goto (tgt := 84) B dX7_restart_74 (by decide) ?_
          exact tail c5 c25 (by omega) _ (by omega) (by first | rw [if_pos (by omega)] | rw [if_neg (by omega)])
      · refine x_aload_n B dX7_restart_33 rfl ?_
        refine x_iload_n B dX7_restart_34 rfl ?_
        refine x_iconst B dX7_restart_35 ?_
        refine x_mV B mvX7_51 (fun l => c_X7_ofUnit (by omega)) dX7_restart_36 rfl rfl (by decide) (by decide) (Nat.le_of_ble_eq_true rfl) PM.rv (fun r36 => ?_)
        refine x_iconst B dX7_restart_39 ?_
        refine x_icmp_ne (tgt := 46) B dX7_restart_40 (by decide) (by omega) (by omega) (fun c40 => ?_) (fun c40 => ?_)
        · refine x_aload_n B dX7_restart_46 rfl ?_
          refine x_mN B mvX7_44 (fun l => c_X7_keep (by omega)) dX7_restart_47 rfl rfl (by decide) (by decide) (Nat.le_of_ble_eq_true rfl) PM.rv ?_
          refine x_aload_n B dX7_restart_50 rfl ?_
          refine x_iload_n B dX7_restart_51 rfl ?_
          refine x_iconst B dX7_restart_52 ?_
          refine x_iconst B dX7_restart_53 ?_
          refine x_mN B mvX7_54 (fun l => c_X7_put (by omega) (by omega)) dX7_restart_54 rfl rfl (by decide) (by decide) (Nat.le_of_ble_eq_true rfl) PM.rv ?_
          refine x_aload_n B dX7_restart_57 rfl ?_
          refine x_iload_n B dX7_restart_58 rfl ?_
          refine x_bipush B dX7_restart_59 (by decide) ?_
          refine x_aload_n B dX7_restart_61 rfl ?_
          refine x_iload_n B dX7_restart_62 rfl ?_
          refine x_mV B mvX7_164 (fun l => c_X7_phaseNow (by omega) (by omega) (by omega) (by omega)) dX7_restart_63 rfl rfl (by decide) (by decide) (Nat.le_of_ble_eq_true rfl) PM.rv (fun r63 => ?_)
          refine x_sV B msX7_143 (fun l => c_X7_markOf (by (rw [e6, ep]; omega))) dX7_restart_66 rfl rfl (by decide) (by decide) (Nat.le_of_ble_eq_true rfl) (fun r66 => ?_)
          refine x_iconst B dX7_restart_69 ?_
          refine x_icmp_ne (tgt := 77) B dX7_restart_70 (by decide) (by omega) (by omega) (fun c70 => ?_) (fun c70 => ?_)
          · refine x_aload_n B dX7_restart_77 rfl ?_
            refine x_iload_n B dX7_restart_78 rfl ?_
            refine x_bipush B dX7_restart_79 (by decide) ?_
            refine x_mV B mvX7_40 (fun l => c_X7_of (by omega)) dX7_restart_81 rfl rfl (by decide) (by decide) (Nat.le_of_ble_eq_true rfl) PM.rv (fun r81 => ?_)
            exact tail c5 c25 (by omega) _ (by omega) (by first | rw [if_pos (by omega)] | rw [if_neg (by omega)])
          · refine x_iconst B dX7_restart_73 ?_
            refine x_goto (tgt := 84) B dX7_restart_74 (by decide) ?_
            exact tail c5 c25 (by omega) _ (by omega) (by first | rw [if_pos (by omega)] | rw [if_neg (by omega)])
        · refine x_bipush B dX7_restart_43 (by decide) ?_
          exact x_retO B R dX7_restart_45 (by simp only [o_restart]; (repeat (first | rfl | rw [if_pos (by omega)] | rw [if_neg (by omega)])); try (exfalso; omega)) (by omega)
  · refine x_iconst B dX7_restart_8 ?_
    exact x_retO B R dX7_restart_9 (by simp only [o_restart]; (repeat (first | rfl | rw [if_pos (by omega)] | rw [if_neg (by omega)])); try (exfalso; omega)) (by omega)
end
section
theorem PM.congr {G : xG} {b : Nat} {m m' : Int → Int} {ρ : Nat → Int → Int} {H : Heap} (h : PM G b m ρ H) (e : ∀ k, 0 ≤ k → k < 788 → m k = m' k) (hr : ∀ k, -2147483648 ≤ m' k ∧ m' k < 2147483648) : PM G b m' ρ H := by
  obtain ⟨h0, h1, h2, h3, h4, h5, h6, h7, h8⟩ := h
  exact ⟨h0, h1.congr (fun k a c => e k a (by omega)), h2, h3, h4, h5, h6, hr, h8⟩
theorem cpyN_rg {f g : Int → Int} {x y n : Int} (hf : ∀ k, -2147483648 ≤ f k ∧ f k < 2147483648) (hg : ∀ k, -2147483648 ≤ g k ∧ g k < 2147483648) : ∀ k, -2147483648 ≤ cpyN f g x y n k ∧ cpyN f g x y n k < 2147483648 := by
  intro k
  unfold cpyN
  split
  · exact hf _
  · exact hg _
theorem s_endsBy_ne {m : Int → Int} {b st w k : Int} (hb : 0 ≤ b ∧ b < 12) (hu : -1 ≤ m (548 + 10 * b + 8) ∧ m (548 + 10 * b + 8) < 8) (h : k < 4 ∨ 56 ≤ k) (h2 : k < 668 ∨ 788 ≤ k) (h5 : k ≠ 548 + 10 * b + 5) (h8 : k ≠ 548 + 10 * b + 8) : s_endsBy m b st w k = m k := by
  have e8 : s_relS m b 3 (548 + 10 * b + 8) = m (548 + 10 * b + 8) := s_relS_ne (by omega)
  unfold s_endsBy
  rw [s_note_ne h2 (by omega), up_ne h5]
  simp only [s_relU]
  rw [e8]
  split
  · exact s_relS_ne (by omega)
  · rw [up_ne h8, up_ne (by omega), up_ne (by omega)]
    exact s_relS_ne (by omega)
theorem s_endsBy_4 {m : Int → Int} {b st w : Int} (hb : 0 ≤ b ∧ b < 12) (hu : -1 ≤ m (548 + 10 * b + 8) ∧ m (548 + 10 * b + 8) < 8) : s_endsBy m b st w 4 = if m 4 = 40 then 40 else m 4 + 1 := by
  have e8 : s_relS m b 3 (548 + 10 * b + 8) = m (548 + 10 * b + 8) := s_relS_ne (by omega)
  have e4 : (up (s_relU (s_relS m b 3) b) (548 + 10 * b + 5) st) 4 = m 4 := by
    rw [up_ne (by omega), s_relU_4 _ _ hb (by omega), s_relS_ne (by omega)]
  unfold s_endsBy s_note
  rw [if_neg (by omega), if_pos rfl, e4]
theorem s_endsBy_st {m : Int → Int} {b st w : Int} (hb : 0 ≤ b ∧ b < 12) : s_endsBy m b st w (548 + 10 * b + 5) = st := by
  unfold s_endsBy
  rw [s_note_ne (by omega) (by omega), up_eq rfl]
def o_stop (m : Int → Int) (ρ : Nat → Int → Int) (b : Int) : xO :=
  if ¬ (0 ≤ b ∧ b ≤ m 3 - 1) then (-1, m, ρ) else if m (548 + 10 * b + 5) ≠ 1 ∧ m (548 + 10 * b + 5) ≠ 2 then (-2, m, ρ) else
  if m (548 + 10 * b + 5) = 1 ∧ 0 < m (548 + 10 * b + 7) then (3, up m (548 + 10 * b + 5) 3, s_keep m ρ) else (4, s_endsBy m b 4 4, s_keep m ρ)
theorem c_X7_stop {G : xG} {l : Launch} {b : Nat} {m : Int → Int} {ρ : Nat → Int → Int} {W x : Int} (h1 : Iv m W) (h2 : Ir ρ) (h3 : -2147483648 ≤ x ∧ x < 2147483648) : CT G l yX7_stop cX7_stop 2 (some .int) ({ frames := 3, cells := 0, slots := 0, locals := 68 } : Room) 0 0 [.ref b, vi x] (PM G b m ρ) (pI (o_stop m ρ x).1 (PM G b (o_stop m ρ x).2.1 (o_stop m ρ x).2.2)) (AM b) := by
  refine x_met1 (own := RX7) (nm := "stop") (L := [(0, .ref b), (1, vi x)]) (by decide) rfl rfl (fun _ => rfl) (Nat.le_of_ble_eq_true rfl) rfl rfl ?_
  intro Γ B R
  have hn := h1.n
  have hr := h2.1
  refine x_aload_n B dX7_stop_0 rfl ?_
  refine x_iload_n B dX7_stop_1 rfl ?_
  refine x_mZ B mvX7_152 (fun l => c_X7_isBatch (by omega) (by omega)) dX7_stop_2 rfl rfl (by decide) (by decide) (Nat.le_of_ble_eq_true rfl) PM.rv ?_
  refine x_ifz_ne (tgt := 10) B dX7_stop_5 (by decide) (fun c5 => ?_) (fun c5 => ?_)
  · have hb := h1.b (b := x) (by omega) (by omega)
    unfold okB at hb
    have e3 : up m (548 + 10 * x + 5) 3 (548 + 10 * x + 5) = 3 := up_eq rfl
    have e4 : s_endsBy m x 4 4 (548 + 10 * x + 5) = 4 := s_endsBy_st (by omega)
    refine x_aload_n B dX7_stop_10 rfl ?_
    refine x_iload_n B dX7_stop_11 rfl ?_
    refine x_iconst B dX7_stop_12 ?_
    refine x_mV B mvX7_40 (fun l => c_X7_of (by omega)) dX7_stop_13 rfl rfl (by decide) (by decide) (Nat.le_of_ble_eq_true rfl) PM.rv (fun r13 => ?_)
    refine x_iconst B dX7_stop_16 ?_
    refine x_icmp_eq (tgt := 33) B dX7_stop_17 (by decide) (by omega) (by omega) (fun c17 => ?_) (fun c17 => ?_)
    · refine x_aload_n B dX7_stop_33 rfl ?_
      refine x_mN B mvX7_44 (fun l => c_X7_keep (by omega)) dX7_stop_34 rfl rfl (by decide) (by decide) (Nat.le_of_ble_eq_true rfl) PM.rv ?_
      refine x_aload_n B dX7_stop_37 rfl ?_
      refine x_iload_n B dX7_stop_38 rfl ?_
      refine x_iconst B dX7_stop_39 ?_
      refine x_mV B mvX7_40 (fun l => c_X7_of (by omega)) dX7_stop_40 rfl rfl (by decide) (by decide) (Nat.le_of_ble_eq_true rfl) PM.rv (fun r40 => ?_)
      refine x_iconst B dX7_stop_43 ?_
      refine x_icmp_ne (tgt := 67) B dX7_stop_44 (by decide) (by omega) (by omega) (fun c44 => ?_) (fun c44 => ?_)
      · refine x_aload_n B dX7_stop_67 rfl ?_
        refine x_iload_n B dX7_stop_68 rfl ?_
        refine x_iconst B dX7_stop_69 ?_
        refine x_iconst B dX7_stop_70 ?_
        refine x_mN B mvX7_170 (fun l => c_X7_endsBy (by omega) (by omega) (by omega) (by omega) (by omega)) dX7_stop_71 rfl rfl (by decide) (by decide) (Nat.le_of_ble_eq_true rfl) PM.rv ?_
        refine x_aload_n B dX7_stop_74 rfl ?_
        refine x_iload_n B dX7_stop_75 rfl ?_
        refine x_iconst B dX7_stop_76 ?_
        refine x_mV B mvX7_40 (fun l => c_X7_of (by omega)) dX7_stop_77 rfl rfl (by decide) (by decide) (Nat.le_of_ble_eq_true rfl) PM.rv (fun r77 => ?_)
        first | refine x_top e3 ?_ | refine x_top e4 ?_
        exact x_retO B R dX7_stop_80 (by simp only [o_stop]; (repeat (first | rfl | rw [if_pos (by omega)] | rw [if_neg (by omega)])); try (exfalso; omega)) (by omega)
      · refine x_aload_n B dX7_stop_47 rfl ?_
        refine x_iload_n B dX7_stop_48 rfl ?_
        refine x_bipush B dX7_stop_49 (by decide) ?_
        refine x_mV B mvX7_40 (fun l => c_X7_of (by omega)) dX7_stop_51 rfl rfl (by decide) (by decide) (Nat.le_of_ble_eq_true rfl) PM.rv (fun r51 => ?_)
        refine x_if_le (tgt := 67) B dX7_stop_54 (by decide) (by omega) (fun c54 => ?_) (fun c54 => ?_)
        · refine x_aload_n B dX7_stop_67 rfl ?_
          refine x_iload_n B dX7_stop_68 rfl ?_
          refine x_iconst B dX7_stop_69 ?_
          refine x_iconst B dX7_stop_70 ?_
          refine x_mN B mvX7_170 (fun l => c_X7_endsBy (by omega) (by omega) (by omega) (by omega) (by omega)) dX7_stop_71 rfl rfl (by decide) (by decide) (Nat.le_of_ble_eq_true rfl) PM.rv ?_
          refine x_aload_n B dX7_stop_74 rfl ?_
          refine x_iload_n B dX7_stop_75 rfl ?_
          refine x_iconst B dX7_stop_76 ?_
          refine x_mV B mvX7_40 (fun l => c_X7_of (by omega)) dX7_stop_77 rfl rfl (by decide) (by decide) (Nat.le_of_ble_eq_true rfl) PM.rv (fun r77 => ?_)
          first | refine x_top e3 ?_ | refine x_top e4 ?_
          exact x_retO B R dX7_stop_80 (by simp only [o_stop]; (repeat (first | rfl | rw [if_pos (by omega)] | rw [if_neg (by omega)])); try (exfalso; omega)) (by omega)
        · refine x_aload_n B dX7_stop_57 rfl ?_
          refine x_iload_n B dX7_stop_58 rfl ?_
          refine x_iconst B dX7_stop_59 ?_
          refine x_iconst B dX7_stop_60 ?_
          refine x_mN B mvX7_54 (fun l => c_X7_put (by omega) (by omega)) dX7_stop_61 rfl rfl (by decide) (by decide) (Nat.le_of_ble_eq_true rfl) PM.rv ?_
          refine x_goto (tgt := 74) B dX7_stop_64 (by decide) ?_
          refine x_aload_n B dX7_stop_74 rfl ?_
          refine x_iload_n B dX7_stop_75 rfl ?_
          refine x_iconst B dX7_stop_76 ?_
          refine x_mV B mvX7_40 (fun l => c_X7_of (by omega)) dX7_stop_77 rfl rfl (by decide) (by decide) (Nat.le_of_ble_eq_true rfl) PM.rv (fun r77 => ?_)
          first | refine x_top e3 ?_ | refine x_top e4 ?_
          exact x_retO B R dX7_stop_80 (by simp only [o_stop]; (repeat (first | rfl | rw [if_pos (by omega)] | rw [if_neg (by omega)])); try (exfalso; omega)) (by omega)
    · refine x_aload_n B dX7_stop_20 rfl ?_
      refine x_iload_n B dX7_stop_21 rfl ?_
      refine x_iconst B dX7_stop_22 ?_
      refine x_mV B mvX7_40 (fun l => c_X7_of (by omega)) dX7_stop_23 rfl rfl (by decide) (by decide) (Nat.le_of_ble_eq_true rfl) PM.rv (fun r23 => ?_)
      refine x_iconst B dX7_stop_26 ?_
      refine x_icmp_eq (tgt := 33) B dX7_stop_27 (by decide) (by omega) (by omega) (fun c27 => ?_) (fun c27 => ?_)
      · refine x_aload_n B dX7_stop_33 rfl ?_
        refine x_mN B mvX7_44 (fun l => c_X7_keep (by omega)) dX7_stop_34 rfl rfl (by decide) (by decide) (Nat.le_of_ble_eq_true rfl) PM.rv ?_
        refine x_aload_n B dX7_stop_37 rfl ?_
        refine x_iload_n B dX7_stop_38 rfl ?_
        refine x_iconst B dX7_stop_39 ?_
        refine x_mV B mvX7_40 (fun l => c_X7_of (by omega)) dX7_stop_40 rfl rfl (by decide) (by decide) (Nat.le_of_ble_eq_true rfl) PM.rv (fun r40 => ?_)
        refine x_iconst B dX7_stop_43 ?_
        refine x_icmp_ne (tgt := 67) B dX7_stop_44 (by decide) (by omega) (by omega) (fun c44 => ?_) (fun c44 => ?_)
        · refine x_aload_n B dX7_stop_67 rfl ?_
          refine x_iload_n B dX7_stop_68 rfl ?_
          refine x_iconst B dX7_stop_69 ?_
          refine x_iconst B dX7_stop_70 ?_
          refine x_mN B mvX7_170 (fun l => c_X7_endsBy (by omega) (by omega) (by omega) (by omega) (by omega)) dX7_stop_71 rfl rfl (by decide) (by decide) (Nat.le_of_ble_eq_true rfl) PM.rv ?_
          refine x_aload_n B dX7_stop_74 rfl ?_
          refine x_iload_n B dX7_stop_75 rfl ?_
          refine x_iconst B dX7_stop_76 ?_
          refine x_mV B mvX7_40 (fun l => c_X7_of (by omega)) dX7_stop_77 rfl rfl (by decide) (by decide) (Nat.le_of_ble_eq_true rfl) PM.rv (fun r77 => ?_)
          first | refine x_top e3 ?_ | refine x_top e4 ?_
          exact x_retO B R dX7_stop_80 (by simp only [o_stop]; (repeat (first | rfl | rw [if_pos (by omega)] | rw [if_neg (by omega)])); try (exfalso; omega)) (by omega)
        · refine x_aload_n B dX7_stop_47 rfl ?_
          refine x_iload_n B dX7_stop_48 rfl ?_
          refine x_bipush B dX7_stop_49 (by decide) ?_
          refine x_mV B mvX7_40 (fun l => c_X7_of (by omega)) dX7_stop_51 rfl rfl (by decide) (by decide) (Nat.le_of_ble_eq_true rfl) PM.rv (fun r51 => ?_)
          refine x_if_le (tgt := 67) B dX7_stop_54 (by decide) (by omega) (fun c54 => ?_) (fun c54 => ?_)
          · refine x_aload_n B dX7_stop_67 rfl ?_
            refine x_iload_n B dX7_stop_68 rfl ?_
            refine x_iconst B dX7_stop_69 ?_
            refine x_iconst B dX7_stop_70 ?_
            refine x_mN B mvX7_170 (fun l => c_X7_endsBy (by omega) (by omega) (by omega) (by omega) (by omega)) dX7_stop_71 rfl rfl (by decide) (by decide) (Nat.le_of_ble_eq_true rfl) PM.rv ?_
            refine x_aload_n B dX7_stop_74 rfl ?_
            refine x_iload_n B dX7_stop_75 rfl ?_
            refine x_iconst B dX7_stop_76 ?_
            refine x_mV B mvX7_40 (fun l => c_X7_of (by omega)) dX7_stop_77 rfl rfl (by decide) (by decide) (Nat.le_of_ble_eq_true rfl) PM.rv (fun r77 => ?_)
            first | refine x_top e3 ?_ | refine x_top e4 ?_
            exact x_retO B R dX7_stop_80 (by simp only [o_stop]; (repeat (first | rfl | rw [if_pos (by omega)] | rw [if_neg (by omega)])); try (exfalso; omega)) (by omega)
          · refine x_aload_n B dX7_stop_57 rfl ?_
            refine x_iload_n B dX7_stop_58 rfl ?_
            refine x_iconst B dX7_stop_59 ?_
            refine x_iconst B dX7_stop_60 ?_
            refine x_mN B mvX7_54 (fun l => c_X7_put (by omega) (by omega)) dX7_stop_61 rfl rfl (by decide) (by decide) (Nat.le_of_ble_eq_true rfl) PM.rv ?_
            refine x_goto (tgt := 74) B dX7_stop_64 (by decide) ?_
            refine x_aload_n B dX7_stop_74 rfl ?_
            refine x_iload_n B dX7_stop_75 rfl ?_
            refine x_iconst B dX7_stop_76 ?_
            refine x_mV B mvX7_40 (fun l => c_X7_of (by omega)) dX7_stop_77 rfl rfl (by decide) (by decide) (Nat.le_of_ble_eq_true rfl) PM.rv (fun r77 => ?_)
            first | refine x_top e3 ?_ | refine x_top e4 ?_
            exact x_retO B R dX7_stop_80 (by simp only [o_stop]; (repeat (first | rfl | rw [if_pos (by omega)] | rw [if_neg (by omega)])); try (exfalso; omega)) (by omega)
      · refine x_bipush B dX7_stop_30 (by decide) ?_
        exact x_retO B R dX7_stop_32 (by simp only [o_stop]; (repeat (first | rfl | rw [if_pos (by omega)] | rw [if_neg (by omega)])); try (exfalso; omega)) (by omega)
  · refine x_iconst B dX7_stop_8 ?_
    exact x_retO B R dX7_stop_9 (by simp only [o_stop]; (repeat (first | rfl | rw [if_pos (by omega)] | rw [if_neg (by omega)])); try (exfalso; omega)) (by omega)
/-- an abort, from batch i on: z has the bits of those that were aborted, n is their number -/
def s_ab (b0 : Int) : Nat → Int → Int → Int → (Int → Int) → Int × (Int → Int)
  | 0, _, _, n, m => (n, m)
  | k + 1, i, z, n, m => if i = b0 ∨ (m (548 + 10 * i + 4) ≠ -1 ∧ z / ((2 ^ (m (548 + 10 * i + 4)).toNat : Nat) : Int) % 2 = 1) ∧ m (548 + 10 * i + 5) < 4 then s_ab b0 k (i + 1) (z + ((2 ^ i.toNat : Nat) : Int)) (n + 1) (s_endsBy m i 5 5) else s_ab b0 k (i + 1) z n m
def o_abort (m : Int → Int) (ρ : Nat → Int → Int) (b : Int) : xO :=
  if ¬ (0 ≤ b ∧ b ≤ m 3 - 1) then (-1, m, ρ) else if 4 ≤ m (548 + 10 * b + 5) then (-2, m, ρ) else
  ((s_ab b (m 3 - b).toNat b 0 0 m).1, (s_ab b (m 3 - b).toNat b 0 0 m).2, s_keep m ρ)
theorem pow2_rg {i : Int} (h : 0 ≤ i ∧ i ≤ 12) : 1 ≤ ((2 ^ i.toNat : Nat) : Int) ∧ ((2 ^ i.toNat : Nat) : Int) ≤ 4096 := by
  have h1 : 2 ^ i.toNat ≤ 2 ^ 12 := Nat.pow_le_pow_right (by decide) (by omega)
  have h2 := Nat.two_pow_pos i.toNat
  omega
theorem c_X7_abort {G : xG} {l : Launch} {b : Nat} {m : Int → Int} {ρ : Nat → Int → Int} {W x : Int} (h1 : Iv m W) (h2 : Ir ρ) (h3 : -2147483648 ≤ x ∧ x < 2147483648) : CT G l yX7_abort cX7_abort 6 (some .int) ({ frames := 3, cells := 0, slots := 0, locals := 68 } : Room) 0 0 [.ref b, vi x] (PM G b m ρ) (pI (o_abort m ρ x).1 (PM G b (o_abort m ρ x).2.1 (o_abort m ρ x).2.2)) (AM b) := by
  refine x_met1 (own := RX7) (nm := "abort") (L := [(0, .ref b), (1, vi x)]) (by decide) rfl rfl (fun _ => rfl) (Nat.le_of_ble_eq_true rfl) rfl rfl ?_
  intro Γ B R
  have hn := h1.n
  have hr := h2.1
  have loop : ∀ (k : Nat) (i z n : Int) (m' : Int → Int) (L : List (Nat × Value)), (0 ≤ x ∧ x ≤ m 3 - 1) → m (548 + 10 * x + 5) < 4 → s_ab x (m 3 - x).toNat x 0 0 m = s_ab x (m 3 - i).toNat i z n m' → x ≤ i → i ≤ m 3 → m 3 - i < k → (0 ≤ z ∧ z < ((2 ^ i.toNat : Nat) : Int)) → (0 ≤ n ∧ n ≤ i) → m' 3 = m 3 → (0 ≤ m' 4 ∧ m' 4 ≤ 40) → (∀ j, i ≤ j → j < m 3 → m' (548 + 10 * j + 4) = m (548 + 10 * j + 4) ∧ m' (548 + 10 * j + 8) = m (548 + 10 * j + 8)) →
      (∀ q ∈ [(0, Value.ref b), (1, vi x), (2, vi z), (3, vi n), (4, vi i)], lget L q.1 = some q.2) → XJ Γ 0 0 (PM G b m' (s_keep m ρ)) 34 L [] := by
    intro k
    induction k with
    | zero => intro i z n m' L _ _ _ _ _ _; omega
    | succ k ih =>
      intro i z n m' L hx h5 he hxi hi hk hz hnn e3 e4 ej hL
      refine x_locs hL ?_
      by_cases hlt : i < m 3
      · have hb := h1.b (b := i) (by omega) hlt
        unfold okB at hb
        obtain ⟨ea, eb⟩ := ej i (by omega) hlt
        have hp := pow2_rg (i := i) (by omega)
        have hq : (m 3 - i).toNat = (m 3 - (i + 1)).toNat + 1 := by omega
        have hpp : ((2 ^ (i + 1).toNat : Nat) : Int) = 2 * ((2 ^ i.toNat : Nat) : Int) := by
          rw [show (i + 1).toNat = i.toNat + 1 by omega, Nat.pow_succ]
          omega
        have hbits : m' (548 + 10 * i + 4) ≠ -1 → 0 ≤ z / ((2 ^ (m' (548 + 10 * i + 4)).toNat : Nat) : Int) := fun _ => Int.ediv_nonneg hz.1 (Int.natCast_nonneg _)
        refine x_iload B dX7_abort_34 rfl ?_
        refine x_aload_n B dX7_abort_36 rfl ?_
        refine x_get B fgX7_7 dX7_abort_37 (fun _ h => ⟨_, PM.o h, rfl⟩) ?_
        refine x_iconst B dX7_abort_40 ?_
        refine x_ialdR B dX7_abort_41 (by omega) (by decide) PM.am (fun r41 => ?_)
        refine x_icmp_ge (tgt := 124) B dX7_abort_42 (by decide) (by omega) (by omega) (fun c42 => ?_) (fun c42 => ?_)
        · omega
        · refine x_aload_n B dX7_abort_45 rfl ?_
          refine x_iload B dX7_abort_46 rfl ?_
          refine x_iconst B dX7_abort_48 ?_
          refine x_mV B mvX7_40 (fun l => c_X7_of (by omega)) dX7_abort_49 rfl rfl (by decide) (by decide) (Nat.le_of_ble_eq_true rfl) PM.rv (fun r49 => ?_)
          refine x_iconst B dX7_abort_52 ?_
          refine x_icmp_eq (tgt := 75) B dX7_abort_53 (by decide) (by omega) (by omega) (fun c53 => ?_) (fun c53 => ?_)
          · refine x_iconst B dX7_abort_75 ?_
            refine x_istore B dX7_abort_76 (by decide) ?_
            refine x_iload B dX7_abort_78 rfl ?_
            refine x_iload_n B dX7_abort_80 rfl ?_
            refine x_icmp_eq (tgt := 100) B dX7_abort_81 (by decide) (by omega) (by omega) (fun c81 => ?_) (fun c81 => ?_)
            · refine x_aload_n B dX7_abort_100 rfl ?_
              refine x_iload B dX7_abort_101 rfl ?_
              refine x_iconst B dX7_abort_103 ?_
              refine x_iconst B dX7_abort_104 ?_
              refine x_mN B mvX7_170 (fun l => c_X7_endsBy (by omega) (by omega) (by omega) (by omega) (by omega)) dX7_abort_105 rfl rfl (by decide) (by decide) (Nat.le_of_ble_eq_true rfl) PM.rv ?_
              refine x_iload_n B dX7_abort_108 rfl ?_
              refine x_iconst B dX7_abort_109 ?_
              refine x_iload B dX7_abort_110 rfl ?_
              refine x_ishl (w := 1 * ((2 ^ i.toNat : Nat) : Int)) B dX7_abort_112 (i32_shl (by omega)) ?_
              refine x_ior (w := z + 1 * ((2 ^ i.toNat : Nat) : Int)) B dX7_abort_113 (i32_or i.toNat hz rfl (by omega)) ?_
              refine x_top (show _ = z + ((2 ^ i.toNat : Nat) : Int) by rw [Int.one_mul]) ?_
              refine x_istore_n B dX7_abort_114 (by decide) ?_
              refine x_iinc B dX7_abort_115 rfl (by decide) ?_
              refine x_iinc B dX7_abort_118 rfl (by decide) ?_
              refine x_goto (tgt := 34) B dX7_abort_121 (by decide) ?_
              exact ih (i + 1) _ _ _ _ hx h5 (by rw [he, hq, s_ab]; first | rw [if_pos (by omega)] | rw [if_neg (by omega)]) (by omega) (by omega) (by omega) (by omega) (by omega) (by first | exact e3 | (rw [s_endsBy_ne (by omega) (by omega) (by omega) (by omega) (by omega) (by omega)]; exact e3)) (by first | exact e4 | (rw [s_endsBy_4 (by omega) (by omega)]; split <;> omega)) (fun j j1 j2 => by
              have := ej j (by omega) j2
              first
                | exact this
                | (rw [s_endsBy_ne (by omega) (by omega) (by omega) (by omega) (by omega) (by omega), s_endsBy_ne (by omega) (by omega) (by omega) (by omega) (by omega) (by omega)]; exact this)) (xl_cons rfl (xl_cons rfl (xl_cons rfl (xl_cons rfl (xl_cons rfl xl_nil)))))
            · refine x_iload B dX7_abort_84 rfl ?_
              refine x_if_eq (tgt := 118) B dX7_abort_86 (by decide) (by omega) (fun _ => ?_) (fun c86 => by exfalso; revert c86; decide)
              refine x_iinc B dX7_abort_118 rfl (by decide) ?_
              refine x_goto (tgt := 34) B dX7_abort_121 (by decide) ?_
              exact ih (i + 1) _ _ _ _ hx h5 (by rw [he, hq, s_ab]; first | rw [if_pos (by omega)] | rw [if_neg (by omega)]) (by omega) (by omega) (by omega) (by omega) (by omega) (by first | exact e3 | (rw [s_endsBy_ne (by omega) (by omega) (by omega) (by omega) (by omega) (by omega)]; exact e3)) (by first | exact e4 | (rw [s_endsBy_4 (by omega) (by omega)]; split <;> omega)) (fun j j1 j2 => by
              have := ej j (by omega) j2
              first
                | exact this
                | (rw [s_endsBy_ne (by omega) (by omega) (by omega) (by omega) (by omega) (by omega), s_endsBy_ne (by omega) (by omega) (by omega) (by omega) (by omega) (by omega)]; exact this)) (xl_cons rfl (xl_cons rfl (xl_cons rfl (xl_cons rfl (xl_cons rfl xl_nil)))))
          · refine x_iload_n B dX7_abort_56 rfl ?_
            refine x_aload_n B dX7_abort_57 rfl ?_
            refine x_iload B dX7_abort_58 rfl ?_
            refine x_iconst B dX7_abort_60 ?_
            refine x_mV B mvX7_40 (fun l => c_X7_of (by omega)) dX7_abort_61 rfl rfl (by decide) (by decide) (Nat.le_of_ble_eq_true rfl) PM.rv (fun r61 => ?_)
            refine x_ishr (w := z / ((2 ^ (m' (548 + 10 * i + 4)).toNat : Nat) : Int)) B dX7_abort_64 (i32_shr (by omega) (by omega)) ?_
            refine x_iconst B dX7_abort_65 ?_
            refine x_iand (w := z / ((2 ^ (m' (548 + 10 * i + 4)).toNat : Nat) : Int) % 2) B dX7_abort_66 (i32_mask 1 1 rfl (hbits (by omega))) ?_
            refine x_iconst B dX7_abort_67 ?_
            refine x_icmp_ne (tgt := 75) B dX7_abort_68 (by decide) (by omega) (by omega) (fun c68 => ?_) (fun c68 => ?_)
            · refine x_iconst B dX7_abort_75 ?_
              refine x_istore B dX7_abort_76 (by decide) ?_
              refine x_iload B dX7_abort_78 rfl ?_
              refine x_iload_n B dX7_abort_80 rfl ?_
              refine x_icmp_eq (tgt := 100) B dX7_abort_81 (by decide) (by omega) (by omega) (fun c81 => ?_) (fun c81 => ?_)
              · refine x_aload_n B dX7_abort_100 rfl ?_
                refine x_iload B dX7_abort_101 rfl ?_
                refine x_iconst B dX7_abort_103 ?_
                refine x_iconst B dX7_abort_104 ?_
                refine x_mN B mvX7_170 (fun l => c_X7_endsBy (by omega) (by omega) (by omega) (by omega) (by omega)) dX7_abort_105 rfl rfl (by decide) (by decide) (Nat.le_of_ble_eq_true rfl) PM.rv ?_
                refine x_iload_n B dX7_abort_108 rfl ?_
                refine x_iconst B dX7_abort_109 ?_
                refine x_iload B dX7_abort_110 rfl ?_
                refine x_ishl (w := 1 * ((2 ^ i.toNat : Nat) : Int)) B dX7_abort_112 (i32_shl (by omega)) ?_
                refine x_ior (w := z + 1 * ((2 ^ i.toNat : Nat) : Int)) B dX7_abort_113 (i32_or i.toNat hz rfl (by omega)) ?_
                refine x_top (show _ = z + ((2 ^ i.toNat : Nat) : Int) by rw [Int.one_mul]) ?_
                refine x_istore_n B dX7_abort_114 (by decide) ?_
                refine x_iinc B dX7_abort_115 rfl (by decide) ?_
                refine x_iinc B dX7_abort_118 rfl (by decide) ?_
                refine x_goto (tgt := 34) B dX7_abort_121 (by decide) ?_
                exact ih (i + 1) _ _ _ _ hx h5 (by rw [he, hq, s_ab]; first | rw [if_pos (by omega)] | rw [if_neg (by omega)]) (by omega) (by omega) (by omega) (by omega) (by omega) (by first | exact e3 | (rw [s_endsBy_ne (by omega) (by omega) (by omega) (by omega) (by omega) (by omega)]; exact e3)) (by first | exact e4 | (rw [s_endsBy_4 (by omega) (by omega)]; split <;> omega)) (fun j j1 j2 => by
                have := ej j (by omega) j2
                first
                  | exact this
                  | (rw [s_endsBy_ne (by omega) (by omega) (by omega) (by omega) (by omega) (by omega), s_endsBy_ne (by omega) (by omega) (by omega) (by omega) (by omega) (by omega)]; exact this)) (xl_cons rfl (xl_cons rfl (xl_cons rfl (xl_cons rfl (xl_cons rfl xl_nil)))))
              · refine x_iload B dX7_abort_84 rfl ?_
                refine x_if_eq (tgt := 118) B dX7_abort_86 (by decide) (by omega) (fun _ => ?_) (fun c86 => by exfalso; revert c86; decide)
                refine x_iinc B dX7_abort_118 rfl (by decide) ?_
                refine x_goto (tgt := 34) B dX7_abort_121 (by decide) ?_
                exact ih (i + 1) _ _ _ _ hx h5 (by rw [he, hq, s_ab]; first | rw [if_pos (by omega)] | rw [if_neg (by omega)]) (by omega) (by omega) (by omega) (by omega) (by omega) (by first | exact e3 | (rw [s_endsBy_ne (by omega) (by omega) (by omega) (by omega) (by omega) (by omega)]; exact e3)) (by first | exact e4 | (rw [s_endsBy_4 (by omega) (by omega)]; split <;> omega)) (fun j j1 j2 => by
                have := ej j (by omega) j2
                first
                  | exact this
                  | (rw [s_endsBy_ne (by omega) (by omega) (by omega) (by omega) (by omega) (by omega), s_endsBy_ne (by omega) (by omega) (by omega) (by omega) (by omega) (by omega)]; exact this)) (xl_cons rfl (xl_cons rfl (xl_cons rfl (xl_cons rfl (xl_cons rfl xl_nil)))))
            · refine x_iconst B dX7_abort_71 ?_
              refine x_goto (tgt := 76) B dX7_abort_72 (by decide) ?_
              refine x_istore B dX7_abort_76 (by decide) ?_
              refine x_iload B dX7_abort_78 rfl ?_
              refine x_iload_n B dX7_abort_80 rfl ?_
              refine x_icmp_eq (tgt := 100) B dX7_abort_81 (by decide) (by omega) (by omega) (fun c81 => ?_) (fun c81 => ?_)
              · refine x_aload_n B dX7_abort_100 rfl ?_
                refine x_iload B dX7_abort_101 rfl ?_
                refine x_iconst B dX7_abort_103 ?_
                refine x_iconst B dX7_abort_104 ?_
                refine x_mN B mvX7_170 (fun l => c_X7_endsBy (by omega) (by omega) (by omega) (by omega) (by omega)) dX7_abort_105 rfl rfl (by decide) (by decide) (Nat.le_of_ble_eq_true rfl) PM.rv ?_
                refine x_iload_n B dX7_abort_108 rfl ?_
                refine x_iconst B dX7_abort_109 ?_
                refine x_iload B dX7_abort_110 rfl ?_
                refine x_ishl (w := 1 * ((2 ^ i.toNat : Nat) : Int)) B dX7_abort_112 (i32_shl (by omega)) ?_
                refine x_ior (w := z + 1 * ((2 ^ i.toNat : Nat) : Int)) B dX7_abort_113 (i32_or i.toNat hz rfl (by omega)) ?_
                refine x_top (show _ = z + ((2 ^ i.toNat : Nat) : Int) by rw [Int.one_mul]) ?_
                refine x_istore_n B dX7_abort_114 (by decide) ?_
                refine x_iinc B dX7_abort_115 rfl (by decide) ?_
                refine x_iinc B dX7_abort_118 rfl (by decide) ?_
                refine x_goto (tgt := 34) B dX7_abort_121 (by decide) ?_
                exact ih (i + 1) _ _ _ _ hx h5 (by rw [he, hq, s_ab]; first | rw [if_pos (by omega)] | rw [if_neg (by omega)]) (by omega) (by omega) (by omega) (by omega) (by omega) (by first | exact e3 | (rw [s_endsBy_ne (by omega) (by omega) (by omega) (by omega) (by omega) (by omega)]; exact e3)) (by first | exact e4 | (rw [s_endsBy_4 (by omega) (by omega)]; split <;> omega)) (fun j j1 j2 => by
                have := ej j (by omega) j2
                first
                  | exact this
                  | (rw [s_endsBy_ne (by omega) (by omega) (by omega) (by omega) (by omega) (by omega), s_endsBy_ne (by omega) (by omega) (by omega) (by omega) (by omega) (by omega)]; exact this)) (xl_cons rfl (xl_cons rfl (xl_cons rfl (xl_cons rfl (xl_cons rfl xl_nil)))))
              · refine x_iload B dX7_abort_84 rfl ?_
                refine x_if_eq (tgt := 118) B dX7_abort_86 (by decide) (by omega) (fun c86 => by exfalso; revert c86; decide) (fun _ => ?_)
                refine x_aload_n B dX7_abort_89 rfl ?_
                refine x_iload B dX7_abort_90 rfl ?_
                refine x_iconst B dX7_abort_92 ?_
                refine x_mV B mvX7_40 (fun l => c_X7_of (by omega)) dX7_abort_93 rfl rfl (by decide) (by decide) (Nat.le_of_ble_eq_true rfl) PM.rv (fun r93 => ?_)
                refine x_iconst B dX7_abort_96 ?_
                refine x_icmp_ge (tgt := 118) B dX7_abort_97 (by decide) (by omega) (by omega) (fun c97 => ?_) (fun c97 => ?_)
                · refine x_iinc B dX7_abort_118 rfl (by decide) ?_
                  refine x_goto (tgt := 34) B dX7_abort_121 (by decide) ?_
                  exact ih (i + 1) _ _ _ _ hx h5 (by rw [he, hq, s_ab]; first | rw [if_pos (by omega)] | rw [if_neg (by omega)]) (by omega) (by omega) (by omega) (by omega) (by omega) (by first | exact e3 | (rw [s_endsBy_ne (by omega) (by omega) (by omega) (by omega) (by omega) (by omega)]; exact e3)) (by first | exact e4 | (rw [s_endsBy_4 (by omega) (by omega)]; split <;> omega)) (fun j j1 j2 => by
                  have := ej j (by omega) j2
                  first
                    | exact this
                    | (rw [s_endsBy_ne (by omega) (by omega) (by omega) (by omega) (by omega) (by omega), s_endsBy_ne (by omega) (by omega) (by omega) (by omega) (by omega) (by omega)]; exact this)) (xl_cons rfl (xl_cons rfl (xl_cons rfl (xl_cons rfl (xl_cons rfl xl_nil)))))
                · refine x_aload_n B dX7_abort_100 rfl ?_
                  refine x_iload B dX7_abort_101 rfl ?_
                  refine x_iconst B dX7_abort_103 ?_
                  refine x_iconst B dX7_abort_104 ?_
                  refine x_mN B mvX7_170 (fun l => c_X7_endsBy (by omega) (by omega) (by omega) (by omega) (by omega)) dX7_abort_105 rfl rfl (by decide) (by decide) (Nat.le_of_ble_eq_true rfl) PM.rv ?_
                  refine x_iload_n B dX7_abort_108 rfl ?_
                  refine x_iconst B dX7_abort_109 ?_
                  refine x_iload B dX7_abort_110 rfl ?_
                  refine x_ishl (w := 1 * ((2 ^ i.toNat : Nat) : Int)) B dX7_abort_112 (i32_shl (by omega)) ?_
                  refine x_ior (w := z + 1 * ((2 ^ i.toNat : Nat) : Int)) B dX7_abort_113 (i32_or i.toNat hz rfl (by omega)) ?_
                  refine x_top (show _ = z + ((2 ^ i.toNat : Nat) : Int) by rw [Int.one_mul]) ?_
                  refine x_istore_n B dX7_abort_114 (by decide) ?_
                  refine x_iinc B dX7_abort_115 rfl (by decide) ?_
                  refine x_iinc B dX7_abort_118 rfl (by decide) ?_
                  refine x_goto (tgt := 34) B dX7_abort_121 (by decide) ?_
                  exact ih (i + 1) _ _ _ _ hx h5 (by rw [he, hq, s_ab]; first | rw [if_pos (by omega)] | rw [if_neg (by omega)]) (by omega) (by omega) (by omega) (by omega) (by omega) (by first | exact e3 | (rw [s_endsBy_ne (by omega) (by omega) (by omega) (by omega) (by omega) (by omega)]; exact e3)) (by first | exact e4 | (rw [s_endsBy_4 (by omega) (by omega)]; split <;> omega)) (fun j j1 j2 => by
                  have := ej j (by omega) j2
                  first
                    | exact this
                    | (rw [s_endsBy_ne (by omega) (by omega) (by omega) (by omega) (by omega) (by omega), s_endsBy_ne (by omega) (by omega) (by omega) (by omega) (by omega) (by omega)]; exact this)) (xl_cons rfl (xl_cons rfl (xl_cons rfl (xl_cons rfl (xl_cons rfl xl_nil)))))
      · have e : i = m 3 := by omega
        subst e
        rw [show (m 3 - m 3).toNat = 0 by omega] at he
        simp only [s_ab] at he
        refine x_iload B dX7_abort_34 rfl ?_
        refine x_aload_n B dX7_abort_36 rfl ?_
        refine x_get B fgX7_7 dX7_abort_37 (fun _ h => ⟨_, PM.o h, rfl⟩) ?_
        refine x_iconst B dX7_abort_40 ?_
        refine x_ialdR B dX7_abort_41 (by omega) (by decide) PM.am (fun r41 => ?_)
        refine x_icmp_ge (tgt := 124) B dX7_abort_42 (by decide) (by omega) (by omega) (fun c42 => ?_) (fun c42 => ?_)
        · refine x_iload_n B dX7_abort_124 rfl ?_
          exact x_retO B R dX7_abort_125 (by simp only [o_abort]; rw [if_neg (by omega), if_neg (by omega), he]) (by omega)
        · omega
  refine x_aload_n B dX7_abort_0 rfl ?_
  refine x_iload_n B dX7_abort_1 rfl ?_
  refine x_mZ B mvX7_152 (fun l => c_X7_isBatch (by omega) (by omega)) dX7_abort_2 rfl rfl (by decide) (by decide) (Nat.le_of_ble_eq_true rfl) PM.rv ?_
  refine x_ifz_ne (tgt := 10) B dX7_abort_5 (by decide) (fun c5 => ?_) (fun c5 => ?_)
  · refine x_aload_n B dX7_abort_10 rfl ?_
    refine x_iload_n B dX7_abort_11 rfl ?_
    refine x_iconst B dX7_abort_12 ?_
    refine x_mV B mvX7_40 (fun l => c_X7_of (by omega)) dX7_abort_13 rfl rfl (by decide) (by decide) (Nat.le_of_ble_eq_true rfl) PM.rv (fun r13 => ?_)
    refine x_iconst B dX7_abort_16 ?_
    refine x_icmp_lt (tgt := 23) B dX7_abort_17 (by decide) (by omega) (by omega) (fun c17 => ?_) (fun c17 => ?_)
    · refine x_aload_n B dX7_abort_23 rfl ?_
      refine x_mN B mvX7_44 (fun l => c_X7_keep (by omega)) dX7_abort_24 rfl rfl (by decide) (by decide) (Nat.le_of_ble_eq_true rfl) PM.rv ?_
      refine x_iconst B dX7_abort_27 ?_
      refine x_istore_n B dX7_abort_28 (by decide) ?_
      refine x_iconst B dX7_abort_29 ?_
      refine x_istore_n B dX7_abort_30 (by decide) ?_
      refine x_iload_n B dX7_abort_31 rfl ?_
      refine x_istore B dX7_abort_32 (by decide) ?_
      exact loop 13 x 0 0 m _ c5 (by omega) rfl (by omega) (by omega) (by omega) ⟨by omega, (pow2_rg (by omega)).1⟩ (by omega) rfl (by omega) (fun j _ _ => ⟨rfl, rfl⟩) (xl_cons rfl (xl_cons rfl (xl_cons rfl (xl_cons rfl (xl_cons rfl xl_nil)))))
    · refine x_bipush B dX7_abort_20 (by decide) ?_
      exact x_retO B R dX7_abort_22 (by simp only [o_abort]; (repeat (first | rfl | rw [if_pos (by omega)] | rw [if_neg (by omega)])); try (exfalso; omega)) (by omega)
  · refine x_iconst B dX7_abort_8 ?_
    exact x_retO B R dX7_abort_9 (by simp only [o_abort]; (repeat (first | rfl | rw [if_pos (by omega)] | rw [if_neg (by omega)])); try (exfalso; omega)) (by omega)
/-- the lowest of n from u on; -1 -/
def lowU (p : Int → Prop) [DecidablePred p] : Nat → Int → Int
  | 0, _ => -1
  | n + 1, u => if p u then u else lowU p n (u + 1)
theorem lowU_rg (p : Int → Prop) [DecidablePred p] : ∀ (n : Nat) (u : Int), 0 ≤ u → lowU p n u = -1 ∨ (u ≤ lowU p n u ∧ lowU p n u < u + n ∧ p (lowU p n u))
  | 0, _, _ => Or.inl rfl
  | n + 1, u, hu => by
    unfold lowU
    split
    · next h => exact Or.inr ⟨by omega, by omega, h⟩
    · rcases lowU_rg p n (u + 1) (by omega) with h | ⟨h1, h2, h3⟩
      · exact Or.inl h
      · exact Or.inr ⟨by omega, by omega, h3⟩
def s_uFor (m : Int → Int) (t b kd : Int) : Int := lowU (fun u => ((m (5 + 6 * u + 2) = -1 ∧ m (5 + 6 * u + 3) = 0 ∧ m (5 + 6 * u + 4) ≤ t) ∧ m (5 + 6 * u + 0) = kd ∧ m (548 + 10 * b + 2) ≤ m (5 + 6 * u + 1))) (m 2).toNat 0
theorem c_X7_unitFor {G : xG} {l : Launch} {b : Nat} {m : Int → Int} {ρ : Nat → Int → Int} {x kd : Int} (h1 : 0 ≤ m 2 ∧ m 2 ≤ 8) (h2 : 0 ≤ x ∧ x < 12) (h3 : -2147483648 ≤ kd ∧ kd < 2147483648) (h4 : ∀ u, 0 ≤ u → u < m 2 → 0 ≤ m (5 + 6 * u + 4)) : CT G l yX7_unitFor cX7_unitFor 4 (some .int) ({ frames := 2, cells := 0, slots := 0, locals := 43 } : Room) 0 0 [.ref b, vi x, vi kd] (PM G b m ρ) (pI (s_uFor m 0 x kd) (PM G b m ρ)) (AM b) := by
  refine x_met1 (own := RX7) (nm := "unitFor") (L := [(0, .ref b), (1, vi x), (2, vi kd)]) (by decide) rfl rfl (fun _ => rfl) (Nat.le_of_ble_eq_true rfl) rfl rfl ?_
  intro Γ B R
  have loop : ∀ (n : Nat) (i : Int), s_uFor m 0 x kd = lowU (fun u => ((m (5 + 6 * u + 2) = -1 ∧ m (5 + 6 * u + 3) = 0 ∧ m (5 + 6 * u + 4) ≤ 0) ∧ m (5 + 6 * u + 0) = kd ∧ m (548 + 10 * x + 2) ≤ m (5 + 6 * u + 1))) (m 2 - i).toNat i → 0 ≤ i → i ≤ m 2 → m 2 - i < n → XJ Γ 0 0 (PM G b m ρ) 2 [(0, .ref b), (1, vi x), (2, vi kd), (3, vi i)] [] := by
    intro n
    induction n with
    | zero => intro i _ _ _ _; omega
    | succ n ih =>
      intro i he hi0 hi1 hn
      by_cases hlt : i < m 2
      · have hq : (m 2 - i).toNat = (m 2 - (i + 1)).toNat + 1 := by omega
        have hu := h4 i hi0 hlt
        refine x_iload_n B dX7_unitFor_2 rfl ?_
        refine x_aload_n B dX7_unitFor_3 rfl ?_
        refine x_get B fgX7_7 dX7_unitFor_4 (fun _ h => ⟨_, PM.o h, rfl⟩) ?_
        refine x_iconst B dX7_unitFor_7 ?_
        refine x_ialdR B dX7_unitFor_8 (by omega) (by decide) PM.am (fun r8 => ?_)
        refine x_icmp_ge (tgt := 53) B dX7_unitFor_9 (by decide) (by omega) (by omega) (fun c9 => ?_) (fun c9 => ?_)
        · omega
        · refine x_aload_n B dX7_unitFor_12 rfl ?_
          refine x_iload_n B dX7_unitFor_13 rfl ?_
          refine x_mZ B mvX7_82 (fun l => c_X7_isFree (by omega)) dX7_unitFor_14 rfl rfl (by decide) (by decide) (Nat.le_of_ble_eq_true rfl) PM.rv ?_
          refine x_ifz_eq (tgt := 47) B dX7_unitFor_17 (by decide) (fun c17 => ?_) (fun c17 => ?_)
          · refine x_iinc B dX7_unitFor_47 rfl (by decide) ?_
            refine x_goto (tgt := 2) B dX7_unitFor_50 (by decide) ?_
            exact ih (i + 1) (by rw [he, hq, lowU, if_neg (by omega)]) (by omega) (by omega) (by omega)
          · refine x_aload_n B dX7_unitFor_20 rfl ?_
            refine x_iload_n B dX7_unitFor_21 rfl ?_
            refine x_iconst B dX7_unitFor_22 ?_
            refine x_mV B mvX7_51 (fun l => c_X7_ofUnit (by omega)) dX7_unitFor_23 rfl rfl (by decide) (by decide) (Nat.le_of_ble_eq_true rfl) PM.rv (fun r23 => ?_)
            refine x_iload_n B dX7_unitFor_26 rfl ?_
            refine x_icmp_ne (tgt := 47) B dX7_unitFor_27 (by decide) (by omega) (by omega) (fun c27 => ?_) (fun c27 => ?_)
            · refine x_iinc B dX7_unitFor_47 rfl (by decide) ?_
              refine x_goto (tgt := 2) B dX7_unitFor_50 (by decide) ?_
              exact ih (i + 1) (by rw [he, hq, lowU, if_neg (by omega)]) (by omega) (by omega) (by omega)
            · refine x_aload_n B dX7_unitFor_30 rfl ?_
              refine x_iload_n B dX7_unitFor_31 rfl ?_
              refine x_iconst B dX7_unitFor_32 ?_
              refine x_mV B mvX7_51 (fun l => c_X7_ofUnit (by omega)) dX7_unitFor_33 rfl rfl (by decide) (by decide) (Nat.le_of_ble_eq_true rfl) PM.rv (fun r33 => ?_)
              refine x_aload_n B dX7_unitFor_36 rfl ?_
              refine x_iload_n B dX7_unitFor_37 rfl ?_
              refine x_iconst B dX7_unitFor_38 ?_
              refine x_mV B mvX7_40 (fun l => c_X7_of (by omega)) dX7_unitFor_39 rfl rfl (by decide) (by decide) (Nat.le_of_ble_eq_true rfl) PM.rv (fun r39 => ?_)
              refine x_icmp_lt (tgt := 47) B dX7_unitFor_42 (by decide) (by omega) (by omega) (fun c42 => ?_) (fun c42 => ?_)
              · refine x_iinc B dX7_unitFor_47 rfl (by decide) ?_
                refine x_goto (tgt := 2) B dX7_unitFor_50 (by decide) ?_
                exact ih (i + 1) (by rw [he, hq, lowU, if_neg (by omega)]) (by omega) (by omega) (by omega)
              · refine x_iload_n B dX7_unitFor_45 rfl ?_
                exact x_retI B R dX7_unitFor_46 (by rw [he, hq, lowU, if_pos (by omega)]) (by rw [he, hq, lowU, if_pos (by omega)]; omega) (fun H h => by exact h)
      · have e : i = m 2 := by omega
        rw [e, show (m 2 - m 2).toNat = 0 by omega] at he
        refine x_iload_n B dX7_unitFor_2 rfl ?_
        refine x_aload_n B dX7_unitFor_3 rfl ?_
        refine x_get B fgX7_7 dX7_unitFor_4 (fun _ h => ⟨_, PM.o h, rfl⟩) ?_
        refine x_iconst B dX7_unitFor_7 ?_
        refine x_ialdR B dX7_unitFor_8 (by omega) (by decide) PM.am (fun r8 => ?_)
        refine x_icmp_ge (tgt := 53) B dX7_unitFor_9 (by decide) (by omega) (by omega) (fun c9 => ?_) (fun c9 => ?_)
        · refine x_iconst B dX7_unitFor_53 ?_
          exact x_retI B R dX7_unitFor_54 (by rw [he]; rfl) (by rw [he]; exact (by decide : -2147483648 ≤ (-1 : Int) ∧ (-1 : Int) < 2147483648)) (fun H h => by exact h)
        · omega
  refine x_iconst B dX7_unitFor_0 ?_
  refine x_istore_n B dX7_unitFor_1 (by decide) ?_
  exact loop 9 0 (by unfold s_uFor; rw [Int.sub_zero]) (by omega) (by omega) (by omega)
theorem c_X7_waitsForOther {G : xG} {l : Launch} {b : Nat} {m : Int → Int} {ρ : Nat → Int → Int} {x : Int} (h2 : 0 ≤ x ∧ x < 12) (h3 : -1 ≤ m (548 + 10 * x + 4) ∧ m (548 + 10 * x + 4) < 12) : CT G l yX7_waitsForOther cX7_waitsForOther 3 (some .boolean) ({ frames := 1, cells := 0, slots := 0, locals := 22 } : Room) 0 0 [.ref b, vi x] (PM G b m ρ) (pZ (m (548 + 10 * x + 6) = 0 ∧ m (548 + 10 * x + 7) = 0 ∧ m (548 + 10 * x + 4) ≠ -1 ∧ m (548 + 10 * m (548 + 10 * x + 4) + 5) ≠ 6) (PM G b m ρ)) (AM b) := by
  refine x_met1 (own := RX7) (nm := "waitsForOther") (L := [(0, .ref b), (1, vi x)]) (by decide) rfl rfl (fun _ => rfl) (Nat.le_of_ble_eq_true rfl) rfl rfl ?_
  intro Γ B R
  refine x_aload_n B dX7_waitsForOther_0 rfl ?_
  refine x_iload_n B dX7_waitsForOther_1 rfl ?_
  refine x_iconst B dX7_waitsForOther_2 ?_
  refine x_mV B mvX7_40 (fun l => c_X7_of (by omega)) dX7_waitsForOther_3 rfl rfl (by decide) (by decide) (Nat.le_of_ble_eq_true rfl) PM.rv (fun r3 => ?_)
  refine x_istore_n B dX7_waitsForOther_6 (by decide) ?_
  refine x_aload_n B dX7_waitsForOther_7 rfl ?_
  refine x_iload_n B dX7_waitsForOther_8 rfl ?_
  refine x_bipush B dX7_waitsForOther_9 (by decide) ?_
  refine x_mV B mvX7_40 (fun l => c_X7_of (by omega)) dX7_waitsForOther_11 rfl rfl (by decide) (by decide) (Nat.le_of_ble_eq_true rfl) PM.rv (fun r11 => ?_)
  refine x_if_ne (tgt := 47) B dX7_waitsForOther_14 (by decide) (by omega) (fun c14 => ?_) (fun c14 => ?_)
  · refine x_iconst B dX7_waitsForOther_47 ?_
    exact x_retZ B R dX7_waitsForOther_48 ((bz_f (by omega)).symm) (fun H h => by exact h)
  · refine x_aload_n B dX7_waitsForOther_17 rfl ?_
    refine x_iload_n B dX7_waitsForOther_18 rfl ?_
    refine x_bipush B dX7_waitsForOther_19 (by decide) ?_
    refine x_mV B mvX7_40 (fun l => c_X7_of (by omega)) dX7_waitsForOther_21 rfl rfl (by decide) (by decide) (Nat.le_of_ble_eq_true rfl) PM.rv (fun r21 => ?_)
    refine x_if_ne (tgt := 47) B dX7_waitsForOther_24 (by decide) (by omega) (fun c24 => ?_) (fun c24 => ?_)
    · refine x_iconst B dX7_waitsForOther_47 ?_
      exact x_retZ B R dX7_waitsForOther_48 ((bz_f (by omega)).symm) (fun H h => by exact h)
    · refine x_iload_n B dX7_waitsForOther_27 rfl ?_
      refine x_iconst B dX7_waitsForOther_28 ?_
      refine x_icmp_eq (tgt := 47) B dX7_waitsForOther_29 (by decide) (by omega) (by omega) (fun c29 => ?_) (fun c29 => ?_)
      · refine x_iconst B dX7_waitsForOther_47 ?_
        exact x_retZ B R dX7_waitsForOther_48 ((bz_f (by omega)).symm) (fun H h => by exact h)
      · refine x_aload_n B dX7_waitsForOther_32 rfl ?_
        refine x_iload_n B dX7_waitsForOther_33 rfl ?_
        refine x_iconst B dX7_waitsForOther_34 ?_
        refine x_mV B mvX7_40 (fun l => c_X7_of (by omega)) dX7_waitsForOther_35 rfl rfl (by decide) (by decide) (Nat.le_of_ble_eq_true rfl) PM.rv (fun r35 => ?_)
        refine x_bipush B dX7_waitsForOther_38 (by decide) ?_
        refine x_icmp_eq (tgt := 47) B dX7_waitsForOther_40 (by decide) (by omega) (by omega) (fun c40 => ?_) (fun c40 => ?_)
        · refine x_iconst B dX7_waitsForOther_47 ?_
          exact x_retZ B R dX7_waitsForOther_48 ((bz_f (by omega)).symm) (fun H h => by exact h)
        · refine x_iconst B dX7_waitsForOther_43 ?_
          refine x_goto (tgt := 48) B dX7_waitsForOther_44 (by decide) ?_
          exact x_retZ B R dX7_waitsForOther_48 ((bz_t (by omega)).symm) (fun H h => by exact h)
/-- what a batch's present phase may be read by -/
def rdB (m : Int → Int) (b : Int) : Prop := (0 ≤ b ∧ b < 12) ∧ (0 ≤ m (548 + 10 * b + 0) ∧ m (548 + 10 * b + 0) < 6) ∧ (1 ≤ m (548 + 10 * b + 1) ∧ m (548 + 10 * b + 1) ≤ 9) ∧ (0 ≤ m (548 + 10 * b + 6) ∧ m (548 + 10 * b + 6) < 8) ∧ (0 ≤ phB m b (m (548 + 10 * b + 6)) ∧ phB m b (m (548 + 10 * b + 6)) < 524288)
theorem c_X7_waitsForShared {G : xG} {l : Launch} {b : Nat} {m : Int → Int} {ρ : Nat → Int → Int} {x : Int} (h2 : rdB m x) : CT G l yX7_waitsForShared cX7_waitsForShared 3 (some .boolean) ({ frames := 3, cells := 0, slots := 0, locals := 66 } : Room) 0 0 [.ref b, vi x] (PM G b m ρ) (pZ ((phB m x (m (548 + 10 * x + 6)) / 512 % 4 - 1) ≠ -1 ∧ m (53 + (phB m x (m (548 + 10 * x + 6)) / 512 % 4 - 1)) ≠ -1 ∧ m (53 + (phB m x (m (548 + 10 * x + 6)) / 512 % 4 - 1)) ≠ x) (PM G b m ρ)) (AM b) := by
  refine x_met1 (own := RX7) (nm := "waitsForShared") (L := [(0, .ref b), (1, vi x)]) (by decide) rfl rfl (fun _ => rfl) (Nat.le_of_ble_eq_true rfl) rfl rfl ?_
  intro Γ B R
  unfold rdB at h2
  refine x_aload_n B dX7_waitsForShared_0 rfl ?_
  refine x_iload_n B dX7_waitsForShared_1 rfl ?_
  refine x_mV B mvX7_164 (fun l => c_X7_phaseNow (by omega) (by omega) (by omega) (by omega)) dX7_waitsForShared_2 rfl rfl (by decide) (by decide) (Nat.le_of_ble_eq_true rfl) PM.rv (fun r2 => ?_)
  refine x_sV B msX7_137 (fun l => c_X7_sharedOf (by omega)) dX7_waitsForShared_5 rfl rfl (by decide) (by decide) (Nat.le_of_ble_eq_true rfl) (fun r5 => ?_)
  refine x_istore_n B dX7_waitsForShared_8 (by decide) ?_
  refine x_iload_n B dX7_waitsForShared_9 rfl ?_
  refine x_iconst B dX7_waitsForShared_10 ?_
  refine x_icmp_eq (tgt := 44) B dX7_waitsForShared_11 (by decide) (by omega) (by omega) (fun c11 => ?_) (fun c11 => ?_)
  · refine x_iconst B dX7_waitsForShared_44 ?_
    exact x_retZ B R dX7_waitsForShared_45 ((bz_f (by omega)).symm) (fun H h => by exact h)
  · refine x_aload_n B dX7_waitsForShared_14 rfl ?_
    refine x_get B fgX7_7 dX7_waitsForShared_15 (fun _ h => ⟨_, PM.o h, rfl⟩) ?_
    refine x_bipush B dX7_waitsForShared_18 (by decide) ?_
    refine x_iload_n B dX7_waitsForShared_20 rfl ?_
    refine x_iadd B dX7_waitsForShared_21 ?_
    refine x_ialdR B dX7_waitsForShared_22 (by omega) (by decide) PM.am (fun r22 => ?_)
    refine x_iconst B dX7_waitsForShared_23 ?_
    refine x_icmp_eq (tgt := 44) B dX7_waitsForShared_24 (by decide) (by omega) (by omega) (fun c24 => ?_) (fun c24 => ?_)
    · refine x_iconst B dX7_waitsForShared_44 ?_
      exact x_retZ B R dX7_waitsForShared_45 ((bz_f (by omega)).symm) (fun H h => by exact h)
    · refine x_aload_n B dX7_waitsForShared_27 rfl ?_
      refine x_get B fgX7_7 dX7_waitsForShared_28 (fun _ h => ⟨_, PM.o h, rfl⟩) ?_
      refine x_bipush B dX7_waitsForShared_31 (by decide) ?_
      refine x_iload_n B dX7_waitsForShared_33 rfl ?_
      refine x_iadd B dX7_waitsForShared_34 ?_
      refine x_ialdR B dX7_waitsForShared_35 (by omega) (by decide) PM.am (fun r35 => ?_)
      refine x_iload_n B dX7_waitsForShared_36 rfl ?_
      refine x_icmp_eq (tgt := 44) B dX7_waitsForShared_37 (by decide) (by omega) (by omega) (fun c37 => ?_) (fun c37 => ?_)
      · refine x_iconst B dX7_waitsForShared_44 ?_
        exact x_retZ B R dX7_waitsForShared_45 ((bz_f (by omega)).symm) (fun H h => by exact h)
      · refine x_iconst B dX7_waitsForShared_40 ?_
        refine x_goto (tgt := 45) B dX7_waitsForShared_41 (by decide) ?_
        exact x_retZ B R dX7_waitsForShared_45 ((bz_t (by omega)).symm) (fun H h => by exact h)
def s_reason (m : Int → Int) (t b : Int) : Int := if (m (548 + 10 * b + 6) = 0 ∧ m (548 + 10 * b + 7) = 0 ∧ m (548 + 10 * b + 4) ≠ -1 ∧ m (548 + 10 * m (548 + 10 * b + 4) + 5) ≠ 6) then 1 else if m (548 + 10 * b + 8) = -1 ∧ s_uFor m t b ((phB m b (m (548 + 10 * b + 6))) % 4) = -1 then 2 else if ((phB m b (m (548 + 10 * b + 6)) / 512 % 4 - 1) ≠ -1 ∧ m (53 + (phB m b (m (548 + 10 * b + 6)) / 512 % 4 - 1)) ≠ -1 ∧ m (53 + (phB m b (m (548 + 10 * b + 6)) / 512 % 4 - 1)) ≠ b) then 3 else 0
theorem c_X7_reason {G : xG} {l : Launch} {b : Nat} {m : Int → Int} {ρ : Nat → Int → Int} {x : Int} (h1 : 0 ≤ m 2 ∧ m 2 ≤ 8) (h2 : rdB m x) (h3 : -1 ≤ m (548 + 10 * x + 4) ∧ m (548 + 10 * x + 4) < 12) (h4 : ∀ u, 0 ≤ u → u < m 2 → 0 ≤ m (5 + 6 * u + 4)) : CT G l yX7_reason cX7_reason 2 (some .int) ({ frames := 4, cells := 0, slots := 0, locals := 88 } : Room) 0 0 [.ref b, vi x] (PM G b m ρ) (pI (s_reason m 0 x) (PM G b m ρ)) (AM b) := by
  refine x_met1 (own := RX7) (nm := "reason") (L := [(0, .ref b), (1, vi x)]) (by decide) rfl rfl (fun _ => rfl) (Nat.le_of_ble_eq_true rfl) rfl rfl ?_
  intro Γ B R
  have h2' := h2
  unfold rdB at h2'
  refine x_aload_n B dX7_reason_0 rfl ?_
  refine x_iload_n B dX7_reason_1 rfl ?_
  refine x_mZ B mvX7_180 (fun l => c_X7_waitsForOther (by omega) (by omega)) dX7_reason_2 rfl rfl (by decide) (by decide) (Nat.le_of_ble_eq_true rfl) PM.rv ?_
  refine x_ifz_eq (tgt := 10) B dX7_reason_5 (by decide) (fun c5 => ?_) (fun c5 => ?_)
  · refine x_aload_n B dX7_reason_10 rfl ?_
    refine x_iload_n B dX7_reason_11 rfl ?_
    refine x_bipush B dX7_reason_12 (by decide) ?_
    refine x_mV B mvX7_40 (fun l => c_X7_of (by omega)) dX7_reason_14 rfl rfl (by decide) (by decide) (Nat.le_of_ble_eq_true rfl) PM.rv (fun r14 => ?_)
    refine x_iconst B dX7_reason_17 ?_
    refine x_icmp_ne (tgt := 40) B dX7_reason_18 (by decide) (by omega) (by omega) (fun c18 => ?_) (fun c18 => ?_)
    · refine x_aload_n B dX7_reason_40 rfl ?_
      refine x_iload_n B dX7_reason_41 rfl ?_
      refine x_mZ B mvX7_186 (fun l => c_X7_waitsForShared h2) dX7_reason_42 rfl rfl (by decide) (by decide) (Nat.le_of_ble_eq_true rfl) PM.rv ?_
      refine x_ifz_eq (tgt := 52) B dX7_reason_45 (by decide) (fun c45 => ?_) (fun c45 => ?_)
      · refine x_iconst B dX7_reason_52 ?_
        exact x_retI B R dX7_reason_53 (by unfold s_reason; repeat (first | rfl | rw [if_pos (by assumption)] | rw [if_neg (by assumption)] | rw [if_pos (by omega)] | rw [if_neg (by omega)])) (by unfold s_reason; (repeat' split) <;> omega) (fun H h => by exact h)
      · refine x_iconst B dX7_reason_48 ?_
        refine x_goto (tgt := 53) B dX7_reason_49 (by decide) ?_
        exact x_retI B R dX7_reason_53 (by unfold s_reason; repeat (first | rfl | rw [if_pos (by assumption)] | rw [if_neg (by assumption)] | rw [if_pos (by omega)] | rw [if_neg (by omega)])) (by unfold s_reason; (repeat' split) <;> omega) (fun H h => by exact h)
    · refine x_aload_n B dX7_reason_21 rfl ?_
      refine x_iload_n B dX7_reason_22 rfl ?_
      refine x_aload_n B dX7_reason_23 rfl ?_
      refine x_iload_n B dX7_reason_24 rfl ?_
      refine x_mV B mvX7_164 (fun l => c_X7_phaseNow (by omega) (by omega) (by omega) (by omega)) dX7_reason_25 rfl rfl (by decide) (by decide) (Nat.le_of_ble_eq_true rfl) PM.rv (fun r25 => ?_)
      refine x_sV B msX7_131 (fun l => c_X7_kindOf (by omega)) dX7_reason_28 rfl rfl (by decide) (by decide) (Nat.le_of_ble_eq_true rfl) (fun r28 => ?_)
      refine x_mV B mvX7_183 (fun l => c_X7_unitFor (by omega) (by omega) (by omega) h4) dX7_reason_31 rfl rfl (by decide) (by decide) (Nat.le_of_ble_eq_true rfl) PM.rv (fun r31 => ?_)
      refine x_iconst B dX7_reason_34 ?_
      refine x_icmp_ne (tgt := 40) B dX7_reason_35 (by decide) (by omega) (by omega) (fun c35 => ?_) (fun c35 => ?_)
      · refine x_aload_n B dX7_reason_40 rfl ?_
        refine x_iload_n B dX7_reason_41 rfl ?_
        refine x_mZ B mvX7_186 (fun l => c_X7_waitsForShared h2) dX7_reason_42 rfl rfl (by decide) (by decide) (Nat.le_of_ble_eq_true rfl) PM.rv ?_
        refine x_ifz_eq (tgt := 52) B dX7_reason_45 (by decide) (fun c45 => ?_) (fun c45 => ?_)
        · refine x_iconst B dX7_reason_52 ?_
          exact x_retI B R dX7_reason_53 (by unfold s_reason; repeat (first | rfl | rw [if_pos (by assumption)] | rw [if_neg (by assumption)] | rw [if_pos (by omega)] | rw [if_neg (by omega)])) (by unfold s_reason; (repeat' split) <;> omega) (fun H h => by exact h)
        · refine x_iconst B dX7_reason_48 ?_
          refine x_goto (tgt := 53) B dX7_reason_49 (by decide) ?_
          exact x_retI B R dX7_reason_53 (by unfold s_reason; repeat (first | rfl | rw [if_pos (by assumption)] | rw [if_neg (by assumption)] | rw [if_pos (by omega)] | rw [if_neg (by omega)])) (by unfold s_reason; (repeat' split) <;> omega) (fun H h => by exact h)
      · refine x_iconst B dX7_reason_38 ?_
        exact x_retI B R dX7_reason_39 (by unfold s_reason; repeat (first | rfl | rw [if_pos (by assumption)] | rw [if_neg (by assumption)] | rw [if_pos (by omega)] | rw [if_neg (by omega)])) (by unfold s_reason; (repeat' split) <;> omega) (fun H h => by exact h)
  · refine x_iconst B dX7_reason_8 ?_
    exact x_retI B R dX7_reason_9 (by unfold s_reason; repeat (first | rfl | rw [if_pos (by assumption)] | rw [if_neg (by assumption)] | rw [if_pos (by omega)] | rw [if_neg (by omega)])) (by unfold s_reason; (repeat' split) <;> omega) (fun H h => by exact h)
end
