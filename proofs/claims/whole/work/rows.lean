section
-- ===== PART A: goes FIRST, ahead of the names: the tables' words, and 'selects' of the private methods out of them =====
/-- a private method of a class that the tables say can be made, by its rows of tables_1 -/
def lw_okq (q : MethodName × Nat) : Prop := (q.1.cls ≠ "java/lang/invoke/MethodHandle" ∧ q.1.cls ≠ "java/lang/invoke/VarHandle") ∧ Cond.instantiable q.1.cls q.2 ∈ tables_1 ∧ Cond.privateMethod q.1 ∈ tables_1 ∧ Cond.instanceMethod q.1 ∈ tables_1
theorem lw_p0 : lw_okq (⟨"BatchExecutive", "record", "()V"⟩, 6) := ⟨⟨by decide +kernel, by decide +kernel⟩, List.mem_of_getElem? (i := 12) (by decide +kernel), List.mem_of_getElem? (i := 272) (by decide +kernel), List.mem_of_getElem? (i := 273) (by decide +kernel)⟩
theorem lw_p1 : lw_okq (⟨"BatchExecutive", "isUnit", "(I)Z"⟩, 6) := ⟨⟨by decide +kernel, by decide +kernel⟩, List.mem_of_getElem? (i := 12) (by decide +kernel), List.mem_of_getElem? (i := 308) (by decide +kernel), List.mem_of_getElem? (i := 309) (by decide +kernel)⟩
theorem lw_p2 : lw_okq (⟨"BatchExecutive$State", "releasePieces", "(I)V"⟩, 12) := ⟨⟨by decide +kernel, by decide +kernel⟩, List.mem_of_getElem? (i := 73) (by decide +kernel), List.mem_of_getElem? (i := 324) (by decide +kernel), List.mem_of_getElem? (i := 325) (by decide +kernel)⟩
theorem lw_p3 : lw_okq (⟨"BatchExecutive$Text", "readPhase", "()V"⟩, 7) := ⟨⟨by decide +kernel, by decide +kernel⟩, List.mem_of_getElem? (i := 38) (by decide +kernel), List.mem_of_getElem? (i := 373) (by decide +kernel), List.mem_of_getElem? (i := 374) (by decide +kernel)⟩
theorem lw_p4 : lw_okq (⟨"BatchExecutive$Text", "current", "()I"⟩, 7) := ⟨⟨by decide +kernel, by decide +kernel⟩, List.mem_of_getElem? (i := 38) (by decide +kernel), List.mem_of_getElem? (i := 377) (by decide +kernel), List.mem_of_getElem? (i := 378) (by decide +kernel)⟩
theorem lw_p5 : lw_okq (⟨"BatchExecutive$Text", "blameCurrent", "()V"⟩, 7) := ⟨⟨by decide +kernel, by decide +kernel⟩, List.mem_of_getElem? (i := 38) (by decide +kernel), List.mem_of_getElem? (i := 384) (by decide +kernel), List.mem_of_getElem? (i := 385) (by decide +kernel)⟩
theorem lw_p6 : lw_okq (⟨"BatchExecutive$Text", "blame", "(II)V"⟩, 7) := ⟨⟨by decide +kernel, by decide +kernel⟩, List.mem_of_getElem? (i := 38) (by decide +kernel), List.mem_of_getElem? (i := 388) (by decide +kernel), List.mem_of_getElem? (i := 389) (by decide +kernel)⟩
theorem lw_p7 : lw_okq (⟨"BatchExecutive$Text", "readRest", "(I)V"⟩, 7) := ⟨⟨by decide +kernel, by decide +kernel⟩, List.mem_of_getElem? (i := 38) (by decide +kernel), List.mem_of_getElem? (i := 392) (by decide +kernel), List.mem_of_getElem? (i := 393) (by decide +kernel)⟩
theorem lw_p8 : lw_okq (⟨"BatchExecutive$Text", "readNumber", "(II)I"⟩, 7) := ⟨⟨by decide +kernel, by decide +kernel⟩, List.mem_of_getElem? (i := 38) (by decide +kernel), List.mem_of_getElem? (i := 396) (by decide +kernel), List.mem_of_getElem? (i := 397) (by decide +kernel)⟩
theorem lw_p9 : lw_okq (⟨"BatchExecutive$Text", "passes", "(C)Z"⟩, 7) := ⟨⟨by decide +kernel, by decide +kernel⟩, List.mem_of_getElem? (i := 38) (by decide +kernel), List.mem_of_getElem? (i := 403) (by decide +kernel), List.mem_of_getElem? (i := 404) (by decide +kernel)⟩
theorem lw_p10 : lw_okq (⟨"BatchExecutive$Text", "readPiece", "()I"⟩, 7) := ⟨⟨by decide +kernel, by decide +kernel⟩, List.mem_of_getElem? (i := 38) (by decide +kernel), List.mem_of_getElem? (i := 407) (by decide +kernel), List.mem_of_getElem? (i := 408) (by decide +kernel)⟩
theorem lw_p11 : lw_okq (⟨"BatchExecutive", "isBatch", "(I)Z"⟩, 6) := ⟨⟨by decide +kernel, by decide +kernel⟩, List.mem_of_getElem? (i := 12) (by decide +kernel), List.mem_of_getElem? (i := 439) (by decide +kernel), List.mem_of_getElem? (i := 440) (by decide +kernel)⟩
theorem lw_p12 : lw_okq (⟨"BatchExecutive$State", "valueOf", "(LBatchExecutive$Batch;I)I"⟩, 12) := ⟨⟨by decide +kernel, by decide +kernel⟩, List.mem_of_getElem? (i := 73) (by decide +kernel), List.mem_of_getElem? (i := 481) (by decide +kernel), List.mem_of_getElem? (i := 482) (by decide +kernel)⟩
theorem lw_p13 : lw_okq (⟨"BatchExecutive$State", "bringToEnd", "(III)V"⟩, 12) := ⟨⟨by decide +kernel, by decide +kernel⟩, List.mem_of_getElem? (i := 73) (by decide +kernel), List.mem_of_getElem? (i := 503) (by decide +kernel), List.mem_of_getElem? (i := 504) (by decide +kernel)⟩
theorem lw_p14 : lw_okq (⟨"BatchExecutive$State", "releaseUnit", "(LBatchExecutive$Batch;)V"⟩, 12) := ⟨⟨by decide +kernel, by decide +kernel⟩, List.mem_of_getElem? (i := 73) (by decide +kernel), List.mem_of_getElem? (i := 507) (by decide +kernel), List.mem_of_getElem? (i := 508) (by decide +kernel)⟩
theorem lw_p15 : lw_okq (⟨"BatchExecutive$State", "unitFor", "(LBatchExecutive$Batch;I)I"⟩, 12) := ⟨⟨by decide +kernel, by decide +kernel⟩, List.mem_of_getElem? (i := 73) (by decide +kernel), List.mem_of_getElem? (i := 549) (by decide +kernel), List.mem_of_getElem? (i := 550) (by decide +kernel)⟩
def lw_privs_1 : List (MethodName × Nat) := [(⟨"BatchExecutive", "record", "()V"⟩, 6), (⟨"BatchExecutive", "isUnit", "(I)Z"⟩, 6), (⟨"BatchExecutive$State", "releasePieces", "(I)V"⟩, 12), (⟨"BatchExecutive$Text", "readPhase", "()V"⟩, 7), (⟨"BatchExecutive$Text", "current", "()I"⟩, 7), (⟨"BatchExecutive$Text", "blameCurrent", "()V"⟩, 7), (⟨"BatchExecutive$Text", "blame", "(II)V"⟩, 7), (⟨"BatchExecutive$Text", "readRest", "(I)V"⟩, 7), (⟨"BatchExecutive$Text", "readNumber", "(II)I"⟩, 7), (⟨"BatchExecutive$Text", "passes", "(C)Z"⟩, 7), (⟨"BatchExecutive$Text", "readPiece", "()I"⟩, 7), (⟨"BatchExecutive", "isBatch", "(I)Z"⟩, 6), (⟨"BatchExecutive$State", "valueOf", "(LBatchExecutive$Batch;I)I"⟩, 12), (⟨"BatchExecutive$State", "bringToEnd", "(III)V"⟩, 12), (⟨"BatchExecutive$State", "releaseUnit", "(LBatchExecutive$Batch;)V"⟩, 12), (⟨"BatchExecutive$State", "unitFor", "(LBatchExecutive$Batch;I)I"⟩, 12)]
theorem lw_r1 : ∀ q ∈ lw_privs_1, lw_okq q := List.forall_mem_cons.mpr ⟨lw_p0, List.forall_mem_cons.mpr ⟨lw_p1, List.forall_mem_cons.mpr ⟨lw_p2, List.forall_mem_cons.mpr ⟨lw_p3, List.forall_mem_cons.mpr ⟨lw_p4, List.forall_mem_cons.mpr ⟨lw_p5, List.forall_mem_cons.mpr ⟨lw_p6, List.forall_mem_cons.mpr ⟨lw_p7, List.forall_mem_cons.mpr ⟨lw_p8, List.forall_mem_cons.mpr ⟨lw_p9, List.forall_mem_cons.mpr ⟨lw_p10, List.forall_mem_cons.mpr ⟨lw_p11, List.forall_mem_cons.mpr ⟨lw_p12, List.forall_mem_cons.mpr ⟨lw_p13, List.forall_mem_cons.mpr ⟨lw_p14, List.forall_mem_cons.mpr ⟨lw_p15, fun _ h => absurd h List.not_mem_nil⟩⟩⟩⟩⟩⟩⟩⟩⟩⟩⟩⟩⟩⟩⟩⟩
theorem lw_p16 : lw_okq (⟨"BatchExecutive$State", "insertInOrder", "(I)V"⟩, 12) := ⟨⟨by decide +kernel, by decide +kernel⟩, List.mem_of_getElem? (i := 73) (by decide +kernel), List.mem_of_getElem? (i := 562) (by decide +kernel), List.mem_of_getElem? (i := 563) (by decide +kernel)⟩
theorem lw_p17 : lw_okq (⟨"BatchExecutive$State", "cleanUnits", "()Z"⟩, 12) := ⟨⟨by decide +kernel, by decide +kernel⟩, List.mem_of_getElem? (i := 73) (by decide +kernel), List.mem_of_getElem? (i := 575) (by decide +kernel), List.mem_of_getElem? (i := 576) (by decide +kernel)⟩
theorem lw_p18 : lw_okq (⟨"BatchExecutive$State", "moveOn", "(I)Z"⟩, 12) := ⟨⟨by decide +kernel, by decide +kernel⟩, List.mem_of_getElem? (i := 73) (by decide +kernel), List.mem_of_getElem? (i := 579) (by decide +kernel), List.mem_of_getElem? (i := 580) (by decide +kernel)⟩
theorem lw_p19 : lw_okq (⟨"BatchExecutive$State", "takeUnit", "(I)Z"⟩, 12) := ⟨⟨by decide +kernel, by decide +kernel⟩, List.mem_of_getElem? (i := 73) (by decide +kernel), List.mem_of_getElem? (i := 584) (by decide +kernel), List.mem_of_getElem? (i := 585) (by decide +kernel)⟩
theorem lw_p20 : lw_okq (⟨"BatchExecutive$State", "work", "(I)V"⟩, 12) := ⟨⟨by decide +kernel, by decide +kernel⟩, List.mem_of_getElem? (i := 73) (by decide +kernel), List.mem_of_getElem? (i := 588) (by decide +kernel), List.mem_of_getElem? (i := 589) (by decide +kernel)⟩
theorem lw_p21 : lw_okq (⟨"BatchExecutive$State", "endPhase", "(I)V"⟩, 12) := ⟨⟨by decide +kernel, by decide +kernel⟩, List.mem_of_getElem? (i := 73) (by decide +kernel), List.mem_of_getElem? (i := 592) (by decide +kernel), List.mem_of_getElem? (i := 593) (by decide +kernel)⟩
theorem lw_p22 : lw_okq (⟨"BatchExecutiveModel", "keep", "()V"⟩, 11) := ⟨⟨by decide +kernel, by decide +kernel⟩, List.mem_of_getElem? (i := 645) (by decide +kernel), List.mem_of_getElem? (i := 692) (by decide +kernel), List.mem_of_getElem? (i := 693) (by decide +kernel)⟩
theorem lw_p23 : lw_okq (⟨"BatchExecutiveModel", "putUnit", "(III)V"⟩, 11) := ⟨⟨by decide +kernel, by decide +kernel⟩, List.mem_of_getElem? (i := 645) (by decide +kernel), List.mem_of_getElem? (i := 699) (by decide +kernel), List.mem_of_getElem? (i := 700) (by decide +kernel)⟩
theorem lw_p24 : lw_okq (⟨"BatchExecutiveModel", "isUnit", "(I)Z"⟩, 11) := ⟨⟨by decide +kernel, by decide +kernel⟩, List.mem_of_getElem? (i := 645) (by decide +kernel), List.mem_of_getElem? (i := 707) (by decide +kernel), List.mem_of_getElem? (i := 708) (by decide +kernel)⟩
theorem lw_p25 : lw_okq (⟨"BatchExecutiveModel", "ofUnit", "(II)I"⟩, 11) := ⟨⟨by decide +kernel, by decide +kernel⟩, List.mem_of_getElem? (i := 645) (by decide +kernel), List.mem_of_getElem? (i := 711) (by decide +kernel), List.mem_of_getElem? (i := 712) (by decide +kernel)⟩
theorem lw_p26 : lw_okq (⟨"BatchExecutiveModel", "isActive", "(I)Z"⟩, 11) := ⟨⟨by decide +kernel, by decide +kernel⟩, List.mem_of_getElem? (i := 645) (by decide +kernel), List.mem_of_getElem? (i := 715) (by decide +kernel), List.mem_of_getElem? (i := 716) (by decide +kernel)⟩
theorem lw_p27 : lw_okq (⟨"BatchExecutiveModel", "of", "(II)I"⟩, 11) := ⟨⟨by decide +kernel, by decide +kernel⟩, List.mem_of_getElem? (i := 645) (by decide +kernel), List.mem_of_getElem? (i := 719) (by decide +kernel), List.mem_of_getElem? (i := 720) (by decide +kernel)⟩
theorem lw_p28 : lw_okq (⟨"BatchExecutiveModel", "holds", "(I)V"⟩, 11) := ⟨⟨by decide +kernel, by decide +kernel⟩, List.mem_of_getElem? (i := 645) (by decide +kernel), List.mem_of_getElem? (i := 723) (by decide +kernel), List.mem_of_getElem? (i := 724) (by decide +kernel)⟩
theorem lw_p29 : lw_okq (⟨"BatchExecutiveModel", "releaseShared", "(I)V"⟩, 11) := ⟨⟨by decide +kernel, by decide +kernel⟩, List.mem_of_getElem? (i := 645) (by decide +kernel), List.mem_of_getElem? (i := 727) (by decide +kernel), List.mem_of_getElem? (i := 728) (by decide +kernel)⟩
theorem lw_p30 : lw_okq (⟨"BatchExecutiveModel", "put", "(III)V"⟩, 11) := ⟨⟨by decide +kernel, by decide +kernel⟩, List.mem_of_getElem? (i := 645) (by decide +kernel), List.mem_of_getElem? (i := 731) (by decide +kernel), List.mem_of_getElem? (i := 732) (by decide +kernel)⟩
theorem lw_p31 : lw_okq (⟨"BatchExecutiveModel", "note", "(II)V"⟩, 11) := ⟨⟨by decide +kernel, by decide +kernel⟩, List.mem_of_getElem? (i := 645) (by decide +kernel), List.mem_of_getElem? (i := 735) (by decide +kernel), List.mem_of_getElem? (i := 736) (by decide +kernel)⟩
def lw_privs_2 : List (MethodName × Nat) := [(⟨"BatchExecutive$State", "insertInOrder", "(I)V"⟩, 12), (⟨"BatchExecutive$State", "cleanUnits", "()Z"⟩, 12), (⟨"BatchExecutive$State", "moveOn", "(I)Z"⟩, 12), (⟨"BatchExecutive$State", "takeUnit", "(I)Z"⟩, 12), (⟨"BatchExecutive$State", "work", "(I)V"⟩, 12), (⟨"BatchExecutive$State", "endPhase", "(I)V"⟩, 12), (⟨"BatchExecutiveModel", "keep", "()V"⟩, 11), (⟨"BatchExecutiveModel", "putUnit", "(III)V"⟩, 11), (⟨"BatchExecutiveModel", "isUnit", "(I)Z"⟩, 11), (⟨"BatchExecutiveModel", "ofUnit", "(II)I"⟩, 11), (⟨"BatchExecutiveModel", "isActive", "(I)Z"⟩, 11), (⟨"BatchExecutiveModel", "of", "(II)I"⟩, 11), (⟨"BatchExecutiveModel", "holds", "(I)V"⟩, 11), (⟨"BatchExecutiveModel", "releaseShared", "(I)V"⟩, 11), (⟨"BatchExecutiveModel", "put", "(III)V"⟩, 11), (⟨"BatchExecutiveModel", "note", "(II)V"⟩, 11)]
theorem lw_r2 : ∀ q ∈ lw_privs_2, lw_okq q := List.forall_mem_cons.mpr ⟨lw_p16, List.forall_mem_cons.mpr ⟨lw_p17, List.forall_mem_cons.mpr ⟨lw_p18, List.forall_mem_cons.mpr ⟨lw_p19, List.forall_mem_cons.mpr ⟨lw_p20, List.forall_mem_cons.mpr ⟨lw_p21, List.forall_mem_cons.mpr ⟨lw_p22, List.forall_mem_cons.mpr ⟨lw_p23, List.forall_mem_cons.mpr ⟨lw_p24, List.forall_mem_cons.mpr ⟨lw_p25, List.forall_mem_cons.mpr ⟨lw_p26, List.forall_mem_cons.mpr ⟨lw_p27, List.forall_mem_cons.mpr ⟨lw_p28, List.forall_mem_cons.mpr ⟨lw_p29, List.forall_mem_cons.mpr ⟨lw_p30, List.forall_mem_cons.mpr ⟨lw_p31, fun _ h => absurd h List.not_mem_nil⟩⟩⟩⟩⟩⟩⟩⟩⟩⟩⟩⟩⟩⟩⟩⟩
theorem lw_p32 : lw_okq (⟨"BatchExecutiveModel", "broken", "()I"⟩, 11) := ⟨⟨by decide +kernel, by decide +kernel⟩, List.mem_of_getElem? (i := 645) (by decide +kernel), List.mem_of_getElem? (i := 743) (by decide +kernel), List.mem_of_getElem? (i := 744) (by decide +kernel)⟩
theorem lw_p33 : lw_okq (⟨"BatchExecutiveModel", "isFree", "(I)Z"⟩, 11) := ⟨⟨by decide +kernel, by decide +kernel⟩, List.mem_of_getElem? (i := 645) (by decide +kernel), List.mem_of_getElem? (i := 751) (by decide +kernel), List.mem_of_getElem? (i := 752) (by decide +kernel)⟩
theorem lw_p34 : lw_okq (⟨"BatchExecutiveModel", "readText", "()I"⟩, 11) := ⟨⟨by decide +kernel, by decide +kernel⟩, List.mem_of_getElem? (i := 645) (by decide +kernel), List.mem_of_getElem? (i := 770) (by decide +kernel), List.mem_of_getElem? (i := 771) (by decide +kernel)⟩
theorem lw_p35 : lw_okq (⟨"BatchExecutiveModel", "readPhase", "(I)Z"⟩, 11) := ⟨⟨by decide +kernel, by decide +kernel⟩, List.mem_of_getElem? (i := 645) (by decide +kernel), List.mem_of_getElem? (i := 774) (by decide +kernel), List.mem_of_getElem? (i := 775) (by decide +kernel)⟩
theorem lw_p36 : lw_okq (⟨"BatchExecutiveModel", "here", "()I"⟩, 11) := ⟨⟨by decide +kernel, by decide +kernel⟩, List.mem_of_getElem? (i := 645) (by decide +kernel), List.mem_of_getElem? (i := 778) (by decide +kernel), List.mem_of_getElem? (i := 779) (by decide +kernel)⟩
theorem lw_p37 : lw_okq (⟨"BatchExecutiveModel", "isFault", "()Z"⟩, 11) := ⟨⟨by decide +kernel, by decide +kernel⟩, List.mem_of_getElem? (i := 645) (by decide +kernel), List.mem_of_getElem? (i := 785) (by decide +kernel), List.mem_of_getElem? (i := 786) (by decide +kernel)⟩
theorem lw_p38 : lw_okq (⟨"BatchExecutiveModel", "readNumber", "(II)Z"⟩, 11) := ⟨⟨by decide +kernel, by decide +kernel⟩, List.mem_of_getElem? (i := 645) (by decide +kernel), List.mem_of_getElem? (i := 789) (by decide +kernel), List.mem_of_getElem? (i := 790) (by decide +kernel)⟩
theorem lw_p39 : lw_okq (⟨"BatchExecutiveModel", "takes", "(I)Z"⟩, 11) := ⟨⟨by decide +kernel, by decide +kernel⟩, List.mem_of_getElem? (i := 645) (by decide +kernel), List.mem_of_getElem? (i := 793) (by decide +kernel), List.mem_of_getElem? (i := 794) (by decide +kernel)⟩
theorem lw_p40 : lw_okq (⟨"BatchExecutiveModel", "phasesOf", "(II)I"⟩, 11) := ⟨⟨by decide +kernel, by decide +kernel⟩, List.mem_of_getElem? (i := 645) (by decide +kernel), List.mem_of_getElem? (i := 805) (by decide +kernel), List.mem_of_getElem? (i := 806) (by decide +kernel)⟩
theorem lw_p41 : lw_okq (⟨"BatchExecutiveModel", "phaseIn", "(III)I"⟩, 11) := ⟨⟨by decide +kernel, by decide +kernel⟩, List.mem_of_getElem? (i := 645) (by decide +kernel), List.mem_of_getElem? (i := 809) (by decide +kernel), List.mem_of_getElem? (i := 810) (by decide +kernel)⟩
theorem lw_p42 : lw_okq (⟨"BatchExecutiveModel", "isBatch", "(I)Z"⟩, 11) := ⟨⟨by decide +kernel, by decide +kernel⟩, List.mem_of_getElem? (i := 645) (by decide +kernel), List.mem_of_getElem? (i := 835) (by decide +kernel), List.mem_of_getElem? (i := 836) (by decide +kernel)⟩
theorem lw_p43 : lw_okq (⟨"BatchExecutiveModel", "many", "(I)I"⟩, 11) := ⟨⟨by decide +kernel, by decide +kernel⟩, List.mem_of_getElem? (i := 645) (by decide +kernel), List.mem_of_getElem? (i := 853) (by decide +kernel), List.mem_of_getElem? (i := 854) (by decide +kernel)⟩
theorem lw_p44 : lw_okq (⟨"BatchExecutiveModel", "phaseNow", "(I)I"⟩, 11) := ⟨⟨by decide +kernel, by decide +kernel⟩, List.mem_of_getElem? (i := 645) (by decide +kernel), List.mem_of_getElem? (i := 865) (by decide +kernel), List.mem_of_getElem? (i := 866) (by decide +kernel)⟩
theorem lw_p45 : lw_okq (⟨"BatchExecutiveModel", "phaseAt", "(II)I"⟩, 11) := ⟨⟨by decide +kernel, by decide +kernel⟩, List.mem_of_getElem? (i := 645) (by decide +kernel), List.mem_of_getElem? (i := 869) (by decide +kernel), List.mem_of_getElem? (i := 870) (by decide +kernel)⟩
theorem lw_p46 : lw_okq (⟨"BatchExecutiveModel", "left", "(I)I"⟩, 11) := ⟨⟨by decide +kernel, by decide +kernel⟩, List.mem_of_getElem? (i := 645) (by decide +kernel), List.mem_of_getElem? (i := 873) (by decide +kernel), List.mem_of_getElem? (i := 874) (by decide +kernel)⟩
theorem lw_p47 : lw_okq (⟨"BatchExecutiveModel", "endsBy", "(III)V"⟩, 11) := ⟨⟨by decide +kernel, by decide +kernel⟩, List.mem_of_getElem? (i := 645) (by decide +kernel), List.mem_of_getElem? (i := 881) (by decide +kernel), List.mem_of_getElem? (i := 882) (by decide +kernel)⟩
def lw_privs_3 : List (MethodName × Nat) := [(⟨"BatchExecutiveModel", "broken", "()I"⟩, 11), (⟨"BatchExecutiveModel", "isFree", "(I)Z"⟩, 11), (⟨"BatchExecutiveModel", "readText", "()I"⟩, 11), (⟨"BatchExecutiveModel", "readPhase", "(I)Z"⟩, 11), (⟨"BatchExecutiveModel", "here", "()I"⟩, 11), (⟨"BatchExecutiveModel", "isFault", "()Z"⟩, 11), (⟨"BatchExecutiveModel", "readNumber", "(II)Z"⟩, 11), (⟨"BatchExecutiveModel", "takes", "(I)Z"⟩, 11), (⟨"BatchExecutiveModel", "phasesOf", "(II)I"⟩, 11), (⟨"BatchExecutiveModel", "phaseIn", "(III)I"⟩, 11), (⟨"BatchExecutiveModel", "isBatch", "(I)Z"⟩, 11), (⟨"BatchExecutiveModel", "many", "(I)I"⟩, 11), (⟨"BatchExecutiveModel", "phaseNow", "(I)I"⟩, 11), (⟨"BatchExecutiveModel", "phaseAt", "(II)I"⟩, 11), (⟨"BatchExecutiveModel", "left", "(I)I"⟩, 11), (⟨"BatchExecutiveModel", "endsBy", "(III)V"⟩, 11)]
theorem lw_r3 : ∀ q ∈ lw_privs_3, lw_okq q := List.forall_mem_cons.mpr ⟨lw_p32, List.forall_mem_cons.mpr ⟨lw_p33, List.forall_mem_cons.mpr ⟨lw_p34, List.forall_mem_cons.mpr ⟨lw_p35, List.forall_mem_cons.mpr ⟨lw_p36, List.forall_mem_cons.mpr ⟨lw_p37, List.forall_mem_cons.mpr ⟨lw_p38, List.forall_mem_cons.mpr ⟨lw_p39, List.forall_mem_cons.mpr ⟨lw_p40, List.forall_mem_cons.mpr ⟨lw_p41, List.forall_mem_cons.mpr ⟨lw_p42, List.forall_mem_cons.mpr ⟨lw_p43, List.forall_mem_cons.mpr ⟨lw_p44, List.forall_mem_cons.mpr ⟨lw_p45, List.forall_mem_cons.mpr ⟨lw_p46, List.forall_mem_cons.mpr ⟨lw_p47, fun _ h => absurd h List.not_mem_nil⟩⟩⟩⟩⟩⟩⟩⟩⟩⟩⟩⟩⟩⟩⟩⟩
theorem lw_p48 : lw_okq (⟨"BatchExecutiveModel", "releaseUnit", "(I)V"⟩, 11) := ⟨⟨by decide +kernel, by decide +kernel⟩, List.mem_of_getElem? (i := 645) (by decide +kernel), List.mem_of_getElem? (i := 885) (by decide +kernel), List.mem_of_getElem? (i := 886) (by decide +kernel)⟩
theorem lw_p49 : lw_okq (⟨"BatchExecutiveModel", "batchOf", "(II)I"⟩, 11) := ⟨⟨by decide +kernel, by decide +kernel⟩, List.mem_of_getElem? (i := 645) (by decide +kernel), List.mem_of_getElem? (i := 901) (by decide +kernel), List.mem_of_getElem? (i := 902) (by decide +kernel)⟩
theorem lw_p50 : lw_okq (⟨"BatchExecutiveModel", "clean", "()V"⟩, 11) := ⟨⟨by decide +kernel, by decide +kernel⟩, List.mem_of_getElem? (i := 645) (by decide +kernel), List.mem_of_getElem? (i := 912) (by decide +kernel), List.mem_of_getElem? (i := 913) (by decide +kernel)⟩
theorem lw_p51 : lw_okq (⟨"BatchExecutiveModel", "reason", "(I)I"⟩, 11) := ⟨⟨by decide +kernel, by decide +kernel⟩, List.mem_of_getElem? (i := 645) (by decide +kernel), List.mem_of_getElem? (i := 916) (by decide +kernel), List.mem_of_getElem? (i := 917) (by decide +kernel)⟩
theorem lw_p52 : lw_okq (⟨"BatchExecutiveModel", "waitsForOther", "(I)Z"⟩, 11) := ⟨⟨by decide +kernel, by decide +kernel⟩, List.mem_of_getElem? (i := 645) (by decide +kernel), List.mem_of_getElem? (i := 920) (by decide +kernel), List.mem_of_getElem? (i := 921) (by decide +kernel)⟩
theorem lw_p53 : lw_okq (⟨"BatchExecutiveModel", "unitFor", "(II)I"⟩, 11) := ⟨⟨by decide +kernel, by decide +kernel⟩, List.mem_of_getElem? (i := 645) (by decide +kernel), List.mem_of_getElem? (i := 924) (by decide +kernel), List.mem_of_getElem? (i := 925) (by decide +kernel)⟩
theorem lw_p54 : lw_okq (⟨"BatchExecutiveModel", "waitsForShared", "(I)Z"⟩, 11) := ⟨⟨by decide +kernel, by decide +kernel⟩, List.mem_of_getElem? (i := 645) (by decide +kernel), List.mem_of_getElem? (i := 928) (by decide +kernel), List.mem_of_getElem? (i := 929) (by decide +kernel)⟩
theorem lw_p55 : lw_okq (⟨"BatchExecutiveModel", "sort", "()I"⟩, 11) := ⟨⟨by decide +kernel, by decide +kernel⟩, List.mem_of_getElem? (i := 645) (by decide +kernel), List.mem_of_getElem? (i := 936) (by decide +kernel), List.mem_of_getElem? (i := 937) (by decide +kernel)⟩
theorem lw_p56 : lw_okq (⟨"BatchExecutiveModel", "tick", "()V"⟩, 11) := ⟨⟨by decide +kernel, by decide +kernel⟩, List.mem_of_getElem? (i := 645) (by decide +kernel), List.mem_of_getElem? (i := 945) (by decide +kernel), List.mem_of_getElem? (i := 946) (by decide +kernel)⟩
theorem lw_p57 : lw_okq (⟨"BatchExecutiveModel", "work", "(I)V"⟩, 11) := ⟨⟨by decide +kernel, by decide +kernel⟩, List.mem_of_getElem? (i := 645) (by decide +kernel), List.mem_of_getElem? (i := 949) (by decide +kernel), List.mem_of_getElem? (i := 950) (by decide +kernel)⟩
theorem lw_p58 : lw_okq (⟨"BatchExecutiveModel", "ends", "(I)V"⟩, 11) := ⟨⟨by decide +kernel, by decide +kernel⟩, List.mem_of_getElem? (i := 645) (by decide +kernel), List.mem_of_getElem? (i := 953) (by decide +kernel), List.mem_of_getElem? (i := 954) (by decide +kernel)⟩
theorem lw_p59 : lw_okq (⟨"BatchExecutiveModel", "freeUnits", "()I"⟩, 11) := ⟨⟨by decide +kernel, by decide +kernel⟩, List.mem_of_getElem? (i := 645) (by decide +kernel), List.mem_of_getElem? (i := 966) (by decide +kernel), List.mem_of_getElem? (i := 967) (by decide +kernel)⟩
theorem lw_p60 : lw_okq (⟨"BatchExecutiveModel", "worked", "()I"⟩, 11) := ⟨⟨by decide +kernel, by decide +kernel⟩, List.mem_of_getElem? (i := 645) (by decide +kernel), List.mem_of_getElem? (i := 970) (by decide +kernel), List.mem_of_getElem? (i := 971) (by decide +kernel)⟩
theorem lw_p61 : lw_okq (⟨"BatchExecutiveModel", "freeShared", "()I"⟩, 11) := ⟨⟨by decide +kernel, by decide +kernel⟩, List.mem_of_getElem? (i := 645) (by decide +kernel), List.mem_of_getElem? (i := 974) (by decide +kernel), List.mem_of_getElem? (i := 975) (by decide +kernel)⟩
def lw_privs_4 : List (MethodName × Nat) := [(⟨"BatchExecutiveModel", "releaseUnit", "(I)V"⟩, 11), (⟨"BatchExecutiveModel", "batchOf", "(II)I"⟩, 11), (⟨"BatchExecutiveModel", "clean", "()V"⟩, 11), (⟨"BatchExecutiveModel", "reason", "(I)I"⟩, 11), (⟨"BatchExecutiveModel", "waitsForOther", "(I)Z"⟩, 11), (⟨"BatchExecutiveModel", "unitFor", "(II)I"⟩, 11), (⟨"BatchExecutiveModel", "waitsForShared", "(I)Z"⟩, 11), (⟨"BatchExecutiveModel", "sort", "()I"⟩, 11), (⟨"BatchExecutiveModel", "tick", "()V"⟩, 11), (⟨"BatchExecutiveModel", "work", "(I)V"⟩, 11), (⟨"BatchExecutiveModel", "ends", "(I)V"⟩, 11), (⟨"BatchExecutiveModel", "freeUnits", "()I"⟩, 11), (⟨"BatchExecutiveModel", "worked", "()I"⟩, 11), (⟨"BatchExecutiveModel", "freeShared", "()I"⟩, 11)]
theorem lw_r4 : ∀ q ∈ lw_privs_4, lw_okq q := List.forall_mem_cons.mpr ⟨lw_p48, List.forall_mem_cons.mpr ⟨lw_p49, List.forall_mem_cons.mpr ⟨lw_p50, List.forall_mem_cons.mpr ⟨lw_p51, List.forall_mem_cons.mpr ⟨lw_p52, List.forall_mem_cons.mpr ⟨lw_p53, List.forall_mem_cons.mpr ⟨lw_p54, List.forall_mem_cons.mpr ⟨lw_p55, List.forall_mem_cons.mpr ⟨lw_p56, List.forall_mem_cons.mpr ⟨lw_p57, List.forall_mem_cons.mpr ⟨lw_p58, List.forall_mem_cons.mpr ⟨lw_p59, List.forall_mem_cons.mpr ⟨lw_p60, List.forall_mem_cons.mpr ⟨lw_p61, fun _ h => absurd h List.not_mem_nil⟩⟩⟩⟩⟩⟩⟩⟩⟩⟩⟩⟩⟩⟩
def lw_privs : List (MethodName × Nat) := lw_privs_1 ++ (lw_privs_2 ++ (lw_privs_3 ++ (lw_privs_4)))
def lw_tbl : List Cond := k2_sels lw_privs ++ tables_1
theorem lw_privs_ok : ∀ q ∈ lw_privs, lw_okq q := by
  show ∀ q ∈ lw_privs_1 ++ (lw_privs_2 ++ (lw_privs_3 ++ (lw_privs_4))), lw_okq q
  exact List.forall_mem_append.mpr ⟨lw_r1, List.forall_mem_append.mpr ⟨lw_r2, List.forall_mem_append.mpr ⟨lw_r3, lw_r4⟩⟩⟩
/-- the streams that the claim lets the run draw from -/
abbrev lw_cs : List Choice := [Jvm.Choice.named "NaN.bits", Jvm.Choice.named "NaN.copy"]
theorem lw_bits : nanBits ∈ lw_cs := by first | decide | exact List.mem_cons_self | simp [lw_cs, nanBits]
/-! ===== BEGIN printed: names, fields, word lists, decode rows ===== -/
def RX0 : String := "BatchExecutive$Batch"
def TX0 : u_T := fun k => match k with
  | 0 => ("BatchExecutive$Batch", "recipe", "I", false)
  | 1 => ("BatchExecutive$Batch", "version", "I", false)
  | 2 => ("BatchExecutive$Batch", "size", "I", false)
  | 3 => ("BatchExecutive$Batch", "priority", "I", false)
  | 4 => ("BatchExecutive$Batch", "before", "I", false)
  | 5 => ("BatchExecutive$Batch", "state", "I", false)
  | 6 => ("BatchExecutive$Batch", "phase", "I", false)
  | 7 => ("BatchExecutive$Batch", "ticksDone", "I", false)
  | 8 => ("BatchExecutive$Batch", "unit", "I", false)
  | _ => ("BatchExecutive$Batch", "amount", "F", false)
def tyX0 : Nat → FieldType := fun k => match k with
  | 0 => .int
  | 1 => .int
  | 2 => .int
  | 3 => .int
  | 4 => .int
  | 5 => .int
  | 6 => .int
  | 7 => .int
  | 8 => .int
  | _ => .float
theorem nmX0 : ∀ a, a < 10 → ∀ b, b < 10 → a ≠ b → (TX0 a).2.1 ≠ (TX0 b).2.1 := by decide +kernel
theorem tyX0_ok : ∀ k, k < 10 → parseFieldDescriptor (TX0 k).2.2.1 = some (tyX0 k) := by decide +kernel
abbrev cX0_init : ByteArray := prog_2_method_1_code
def yX0_init : MethodName := ⟨RX0, "<init>", "()V"⟩
abbrev cX0_reset : ByteArray := prog_2_method_2_code
def yX0_reset : MethodName := ⟨RX0, "reset", "(IIIII)V"⟩
abbrev cX0_copyFrom : ByteArray := prog_2_method_3_code
def yX0_copyFrom : MethodName := ⟨RX0, "copyFrom", "(LBatchExecutive$Batch;)V"⟩
abbrev cX0_isActive : ByteArray := prog_2_method_4_code
def yX0_isActive : MethodName := ⟨RX0, "isActive", "()Z"⟩
abbrev cX0_isAtEnd : ByteArray := prog_2_method_5_code
def yX0_isAtEnd : MethodName := ⟨RX0, "isAtEnd", "()Z"⟩
abbrev cX0_isUnderWay : ByteArray := prog_2_method_6_code
def yX0_isUnderWay : MethodName := ⟨RX0, "isUnderWay", "()Z"⟩
abbrev cX0_hasBegun : ByteArray := prog_2_method_7_code
def yX0_hasBegun : MethodName := ⟨RX0, "hasBegun", "()Z"⟩
def RX1 : String := "BatchExecutive$Book"
def TX1 : u_T := fun k => match k with
  | 0 => ("BatchExecutive$Book", "lengths", "[I", true)
  | _ => ("BatchExecutive$Book", "values", "[[I", true)
def tyX1 : Nat → FieldType := fun k => match k with
  | 0 => .array .int
  | _ => .array (.array .int)
theorem nmX1 : ∀ a, a < 2 → ∀ b, b < 2 → a ≠ b → (TX1 a).2.1 ≠ (TX1 b).2.1 := by decide +kernel
theorem tyX1_ok : ∀ k, k < 2 → parseFieldDescriptor (TX1 k).2.2.1 = some (tyX1 k) := by decide +kernel
abbrev cX1_init : ByteArray := prog_3_method_1_code
def yX1_init : MethodName := ⟨RX1, "<init>", "()V"⟩
abbrev cX1_pageOf : ByteArray := prog_3_method_2_code
def yX1_pageOf : MethodName := ⟨RX1, "pageOf", "(II)I"⟩
abbrev cX1_write : ByteArray := prog_3_method_3_code
def yX1_write : MethodName := ⟨RX1, "write", "(ILBatchExecutive$Text;)V"⟩
abbrev cX1_find : ByteArray := prog_3_method_4_code
def yX1_find : MethodName := ⟨RX1, "find", "(III)I"⟩
def RX2 : String := "BatchExecutive$Journal"
def TX2 : u_T := fun k => match k with
  | 0 => ("BatchExecutive$Journal", "ticks", "[I", true)
  | 1 => ("BatchExecutive$Journal", "batches", "[I", true)
  | 2 => ("BatchExecutive$Journal", "happenings", "[I", true)
  | 3 => ("BatchExecutive$Journal", "length", "I", false)
  | _ => ("BatchExecutive$Journal", "next", "I", false)
def tyX2 : Nat → FieldType := fun k => match k with
  | 0 => .array .int
  | 1 => .array .int
  | 2 => .array .int
  | 3 => .int
  | _ => .int
theorem nmX2 : ∀ a, a < 5 → ∀ b, b < 5 → a ≠ b → (TX2 a).2.1 ≠ (TX2 b).2.1 := by decide +kernel
theorem tyX2_ok : ∀ k, k < 5 → parseFieldDescriptor (TX2 k).2.2.1 = some (tyX2 k) := by decide +kernel
abbrev cX2_init : ByteArray := prog_4_method_1_code
def yX2_init : MethodName := ⟨RX2, "<init>", "()V"⟩
abbrev cX2_add : ByteArray := prog_4_method_2_code
def yX2_add : MethodName := ⟨RX2, "add", "(III)V"⟩
abbrev cX2_find : ByteArray := prog_4_method_3_code
def yX2_find : MethodName := ⟨RX2, "find", "(II)I"⟩
abbrev cX2_copyFrom : ByteArray := prog_4_method_4_code
def yX2_copyFrom : MethodName := ⟨RX2, "copyFrom", "(LBatchExecutive$Journal;)V"⟩
def RX3 : String := "BatchExecutive$State"
def TX3 : u_T := fun k => match k with
  | 0 => ("BatchExecutive$State", "book", "LBatchExecutive$Book;", true)
  | 1 => ("BatchExecutive$State", "units", "[LBatchExecutive$Unit;", true)
  | 2 => ("BatchExecutive$State", "batches", "[LBatchExecutive$Batch;", true)
  | 3 => ("BatchExecutive$State", "pieceHolders", "[I", true)
  | 4 => ("BatchExecutive$State", "latestVersions", "[I", true)
  | 5 => ("BatchExecutive$State", "journal", "LBatchExecutive$Journal;", true)
  | 6 => ("BatchExecutive$State", "order", "[I", true)
  | 7 => ("BatchExecutive$State", "unitCount", "I", false)
  | 8 => ("BatchExecutive$State", "batchCount", "I", false)
  | 9 => ("BatchExecutive$State", "orderCount", "I", false)
  | 10 => ("BatchExecutive$State", "ticks", "I", false)
  | _ => ("BatchExecutive$State", "cleaning", "I", false)
def tyX3 : Nat → FieldType := fun k => match k with
  | 0 => .object "BatchExecutive$Book"
  | 1 => .array (.object "BatchExecutive$Unit")
  | 2 => .array (.object "BatchExecutive$Batch")
  | 3 => .array .int
  | 4 => .array .int
  | 5 => .object "BatchExecutive$Journal"
  | 6 => .array .int
  | 7 => .int
  | 8 => .int
  | 9 => .int
  | 10 => .int
  | _ => .int
theorem nmX3 : ∀ a, a < 12 → ∀ b, b < 12 → a ≠ b → (TX3 a).2.1 ≠ (TX3 b).2.1 := by decide +kernel
theorem tyX3_ok : ∀ k, k < 12 → parseFieldDescriptor (TX3 k).2.2.1 = some (tyX3 k) := by decide +kernel
abbrev cX3_init : ByteArray := prog_5_method_1_code
def yX3_init : MethodName := ⟨RX3, "<init>", "(LBatchExecutive$Book;)V"⟩
abbrev cX3_copyFrom : ByteArray := prog_5_method_2_code
def yX3_copyFrom : MethodName := ⟨RX3, "copyFrom", "(LBatchExecutive$State;)V"⟩
abbrev cX3_addUnit : ByteArray := prog_5_method_3_code
def yX3_addUnit : MethodName := ⟨RX3, "addUnit", "(II)I"⟩
abbrev cX3_breakUnit : ByteArray := prog_5_method_4_code
def yX3_breakUnit : MethodName := ⟨RX3, "breakUnit", "(I)I"⟩
abbrev cX3_brokenUnits : ByteArray := prog_5_method_5_code
def yX3_brokenUnits : MethodName := ⟨RX3, "brokenUnits", "()I"⟩
abbrev cX3_freeUnits : ByteArray := prog_5_method_6_code
def yX3_freeUnits : MethodName := ⟨RX3, "freeUnits", "()I"⟩
abbrev cX3_workedTicks : ByteArray := prog_5_method_7_code
def yX3_workedTicks : MethodName := ⟨RX3, "workedTicks", "()I"⟩
abbrev cX3_freePieces : ByteArray := prog_5_method_8_code
def yX3_freePieces : MethodName := ⟨RX3, "freePieces", "()I"⟩
abbrev cX3_unitFor : ByteArray := prog_5_method_9_code
def yX3_unitFor : MethodName := ⟨RX3, "unitFor", "(LBatchExecutive$Batch;I)I"⟩
abbrev cX3_releaseUnit : ByteArray := prog_5_method_10_code
def yX3_releaseUnit : MethodName := ⟨RX3, "releaseUnit", "(LBatchExecutive$Batch;)V"⟩
abbrev cX3_releasePieces : ByteArray := prog_5_method_11_code
def yX3_releasePieces : MethodName := ⟨RX3, "releasePieces", "(I)V"⟩
abbrev cX3_addBatch : ByteArray := prog_5_method_12_code
def yX3_addBatch : MethodName := ⟨RX3, "addBatch", "(IIII)I"⟩
abbrev cX3_batchesIn : ByteArray := prog_5_method_13_code
def yX3_batchesIn : MethodName := ⟨RX3, "batchesIn", "(I)I"⟩
abbrev cX3_isGivenUp : ByteArray := prog_5_method_14_code
def yX3_isGivenUp : MethodName := ⟨RX3, "isGivenUp", "(I)Z"⟩
abbrev cX3_hasBrokenUnit : ByteArray := prog_5_method_15_code
def yX3_hasBrokenUnit : MethodName := ⟨RX3, "hasBrokenUnit", "(I)Z"⟩
abbrev cX3_ticksLeft : ByteArray := prog_5_method_16_code
def yX3_ticksLeft : MethodName := ⟨RX3, "ticksLeft", "(I)I"⟩
abbrev cX3_valueOf : ByteArray := prog_5_method_17_code
def yX3_valueOf : MethodName := ⟨RX3, "valueOf", "(LBatchExecutive$Batch;I)I"⟩
abbrev cX3_holdBatch : ByteArray := prog_5_method_18_code
def yX3_holdBatch : MethodName := ⟨RX3, "holdBatch", "(I)V"⟩
abbrev cX3_restartBatch : ByteArray := prog_5_method_19_code
def yX3_restartBatch : MethodName := ⟨RX3, "restartBatch", "(I)V"⟩
abbrev cX3_stopBatch : ByteArray := prog_5_method_20_code
def yX3_stopBatch : MethodName := ⟨RX3, "stopBatch", "(I)V"⟩
abbrev cX3_abortWithFollowing : ByteArray := prog_5_method_21_code
def yX3_abortWithFollowing : MethodName := ⟨RX3, "abortWithFollowing", "(I)I"⟩
abbrev cX3_bringToEnd : ByteArray := prog_5_method_22_code
def yX3_bringToEnd : MethodName := ⟨RX3, "bringToEnd", "(III)V"⟩
abbrev cX3_arrange : ByteArray := prog_5_method_23_code
def yX3_arrange : MethodName := ⟨RX3, "arrange", "()V"⟩
abbrev cX3_insertInOrder : ByteArray := prog_5_method_24_code
def yX3_insertInOrder : MethodName := ⟨RX3, "insertInOrder", "(I)V"⟩
abbrev cX3_passTick : ByteArray := prog_5_method_25_code
def yX3_passTick : MethodName := ⟨RX3, "passTick", "()Z"⟩
abbrev cX3_cleanUnits : ByteArray := prog_5_method_26_code
def yX3_cleanUnits : MethodName := ⟨RX3, "cleanUnits", "()Z"⟩
abbrev cX3_reasonToWait : ByteArray := prog_5_method_27_code
def yX3_reasonToWait : MethodName := ⟨RX3, "reasonToWait", "(II)I"⟩
abbrev cX3_moveOn : ByteArray := prog_5_method_28_code
def yX3_moveOn : MethodName := ⟨RX3, "moveOn", "(I)Z"⟩
abbrev cX3_takeUnit : ByteArray := prog_5_method_29_code
def yX3_takeUnit : MethodName := ⟨RX3, "takeUnit", "(I)Z"⟩
abbrev cX3_work : ByteArray := prog_5_method_30_code
def yX3_work : MethodName := ⟨RX3, "work", "(I)V"⟩
abbrev cX3_endPhase : ByteArray := prog_5_method_31_code
def yX3_endPhase : MethodName := ⟨RX3, "endPhase", "(I)V"⟩
def RX4 : String := "BatchExecutive$Text"
def TX4 : u_T := fun k => match k with
  | 0 => ("BatchExecutive$Text", "characters", "[C", true)
  | 1 => ("BatchExecutive$Text", "values", "[[I", true)
  | 2 => ("BatchExecutive$Text", "length", "I", false)
  | 3 => ("BatchExecutive$Text", "phaseCount", "I", false)
  | 4 => ("BatchExecutive$Text", "reason", "I", false)
  | 5 => ("BatchExecutive$Text", "place", "I", false)
  | _ => ("BatchExecutive$Text", "at", "I", false)
def tyX4 : Nat → FieldType := fun k => match k with
  | 0 => .array .char
  | 1 => .array (.array .int)
  | 2 => .int
  | 3 => .int
  | 4 => .int
  | 5 => .int
  | _ => .int
theorem nmX4 : ∀ a, a < 7 → ∀ b, b < 7 → a ≠ b → (TX4 a).2.1 ≠ (TX4 b).2.1 := by decide +kernel
theorem tyX4_ok : ∀ k, k < 7 → parseFieldDescriptor (TX4 k).2.2.1 = some (tyX4 k) := by decide +kernel
abbrev cX4_init : ByteArray := prog_6_method_1_code
def yX4_init : MethodName := ⟨RX4, "<init>", "()V"⟩
abbrev cX4_append : ByteArray := prog_6_method_2_code
def yX4_append : MethodName := ⟨RX4, "append", "(C)V"⟩
abbrev cX4_read : ByteArray := prog_6_method_3_code
def yX4_read : MethodName := ⟨RX4, "read", "()V"⟩
abbrev cX4_readPhase : ByteArray := prog_6_method_4_code
def yX4_readPhase : MethodName := ⟨RX4, "readPhase", "()V"⟩
abbrev cX4_readRest : ByteArray := prog_6_method_5_code
def yX4_readRest : MethodName := ⟨RX4, "readRest", "(I)V"⟩
abbrev cX4_readNumber : ByteArray := prog_6_method_6_code
def yX4_readNumber : MethodName := ⟨RX4, "readNumber", "(II)I"⟩
abbrev cX4_readPiece : ByteArray := prog_6_method_7_code
def yX4_readPiece : MethodName := ⟨RX4, "readPiece", "()I"⟩
abbrev cX4_passes : ByteArray := prog_6_method_8_code
def yX4_passes : MethodName := ⟨RX4, "passes", "(C)Z"⟩
abbrev cX4_current : ByteArray := prog_6_method_9_code
def yX4_current : MethodName := ⟨RX4, "current", "()I"⟩
abbrev cX4_blameCurrent : ByteArray := prog_6_method_10_code
def yX4_blameCurrent : MethodName := ⟨RX4, "blameCurrent", "()V"⟩
abbrev cX4_blame : ByteArray := prog_6_method_11_code
def yX4_blame : MethodName := ⟨RX4, "blame", "(II)V"⟩
abbrev cX4_isDigit : ByteArray := prog_6_method_12_code
def yX4_isDigit : MethodName := ⟨RX4, "isDigit", "(I)Z"⟩
abbrev cX4_kindOf : ByteArray := prog_6_method_13_code
def yX4_kindOf : MethodName := ⟨RX4, "kindOf", "(I)I"⟩
def RX5 : String := "BatchExecutive$Unit"
def TX5 : u_T := fun k => match k with
  | 0 => ("BatchExecutive$Unit", "kind", "I", false)
  | 1 => ("BatchExecutive$Unit", "capacity", "I", false)
  | 2 => ("BatchExecutive$Unit", "holder", "I", false)
  | 3 => ("BatchExecutive$Unit", "cleaning", "I", false)
  | 4 => ("BatchExecutive$Unit", "worked", "I", false)
  | _ => ("BatchExecutive$Unit", "broken", "Z", false)
def tyX5 : Nat → FieldType := fun k => match k with
  | 0 => .int
  | 1 => .int
  | 2 => .int
  | 3 => .int
  | 4 => .int
  | _ => .boolean
theorem nmX5 : ∀ a, a < 6 → ∀ b, b < 6 → a ≠ b → (TX5 a).2.1 ≠ (TX5 b).2.1 := by decide +kernel
theorem tyX5_ok : ∀ k, k < 6 → parseFieldDescriptor (TX5 k).2.2.1 = some (tyX5 k) := by decide +kernel
abbrev cX5_init : ByteArray := prog_7_method_1_code
def yX5_init : MethodName := ⟨RX5, "<init>", "()V"⟩
abbrev cX5_reset : ByteArray := prog_7_method_2_code
def yX5_reset : MethodName := ⟨RX5, "reset", "(II)V"⟩
abbrev cX5_copyFrom : ByteArray := prog_7_method_3_code
def yX5_copyFrom : MethodName := ⟨RX5, "copyFrom", "(LBatchExecutive$Unit;)V"⟩
abbrev cX5_isFreeAfter : ByteArray := prog_7_method_4_code
def yX5_isFreeAfter : MethodName := ⟨RX5, "isFreeAfter", "(I)Z"⟩
def RX6 : String := "BatchExecutive"
def TX6 : u_T := fun k => match k with
  | 0 => ("BatchExecutive", "book", "LBatchExecutive$Book;", true)
  | 1 => ("BatchExecutive", "text", "LBatchExecutive$Text;", true)
  | 2 => ("BatchExecutive", "present", "LBatchExecutive$State;", true)
  | 3 => ("BatchExecutive", "trial", "LBatchExecutive$State;", true)
  | 4 => ("BatchExecutive", "past", "[LBatchExecutive$State;", true)
  | _ => ("BatchExecutive", "pastCount", "I", false)
def tyX6 : Nat → FieldType := fun k => match k with
  | 0 => .object "BatchExecutive$Book"
  | 1 => .object "BatchExecutive$Text"
  | 2 => .object "BatchExecutive$State"
  | 3 => .object "BatchExecutive$State"
  | 4 => .array (.object "BatchExecutive$State")
  | _ => .int
theorem nmX6 : ∀ a, a < 6 → ∀ b, b < 6 → a ≠ b → (TX6 a).2.1 ≠ (TX6 b).2.1 := by decide +kernel
theorem tyX6_ok : ∀ k, k < 6 → parseFieldDescriptor (TX6 k).2.2.1 = some (tyX6 k) := by decide +kernel
abbrev cX6_init : ByteArray := prog_1_method_1_code
def yX6_init : MethodName := ⟨RX6, "<init>", "()V"⟩
abbrev cX6_unit : ByteArray := prog_1_method_2_code
def yX6_unit : MethodName := ⟨RX6, "unit", "(II)I"⟩
abbrev cX6_fail : ByteArray := prog_1_method_3_code
def yX6_fail : MethodName := ⟨RX6, "fail", "(I)I"⟩
abbrev cX6_repair : ByteArray := prog_1_method_4_code
def yX6_repair : MethodName := ⟨RX6, "repair", "(I)I"⟩
abbrev cX6_unitInfo : ByteArray := prog_1_method_5_code
def yX6_unitInfo : MethodName := ⟨RX6, "unitInfo", "(II)I"⟩
abbrev cX6_shared : ByteArray := prog_1_method_6_code
def yX6_shared : MethodName := ⟨RX6, "shared", "(I)I"⟩
abbrev cX6_setCleaning : ByteArray := prog_1_method_7_code
def yX6_setCleaning : MethodName := ⟨RX6, "setCleaning", "(I)I"⟩
abbrev cX6_recipe : ByteArray := prog_1_method_8_code
def yX6_recipe : MethodName := ⟨RX6, "recipe", "(I)I"⟩
abbrev cX6_versions : ByteArray := prog_1_method_9_code
def yX6_versions : MethodName := ⟨RX6, "versions", "(I)I"⟩
abbrev cX6_phase : ByteArray := prog_1_method_10_code
def yX6_phase : MethodName := ⟨RX6, "phase", "(IIII)I"⟩
abbrev cX6_batch : ByteArray := prog_1_method_11_code
def yX6_batch : MethodName := ⟨RX6, "batch", "(IIII)I"⟩
abbrev cX6_start : ByteArray := prog_1_method_12_code
def yX6_start : MethodName := ⟨RX6, "start", "(I)I"⟩
abbrev cX6_hold : ByteArray := prog_1_method_13_code
def yX6_hold : MethodName := ⟨RX6, "hold", "(I)I"⟩
abbrev cX6_restart : ByteArray := prog_1_method_14_code
def yX6_restart : MethodName := ⟨RX6, "restart", "(I)I"⟩
abbrev cX6_stop : ByteArray := prog_1_method_15_code
def yX6_stop : MethodName := ⟨RX6, "stop", "(I)I"⟩
abbrev cX6_abort : ByteArray := prog_1_method_16_code
def yX6_abort : MethodName := ⟨RX6, "abort", "(I)I"⟩
abbrev cX6_priority : ByteArray := prog_1_method_17_code
def yX6_priority : MethodName := ⟨RX6, "priority", "(II)I"⟩
abbrev cX6_batchInfo : ByteArray := prog_1_method_18_code
def yX6_batchInfo : MethodName := ⟨RX6, "batchInfo", "(II)I"⟩
abbrev cX6_waits : ByteArray := prog_1_method_19_code
def yX6_waits : MethodName := ⟨RX6, "waits", "(I)I"⟩
abbrev cX6_inOrder : ByteArray := prog_1_method_20_code
def yX6_inOrder : MethodName := ⟨RX6, "inOrder", "(I)I"⟩
abbrev cX6_run : ByteArray := prog_1_method_21_code
def yX6_run : MethodName := ⟨RX6, "run", "(I)I"⟩
abbrev cX6_ticksTo : ByteArray := prog_1_method_22_code
def yX6_ticksTo : MethodName := ⟨RX6, "ticksTo", "(I)I"⟩
abbrev cX6_count : ByteArray := prog_1_method_23_code
def yX6_count : MethodName := ⟨RX6, "count", "(I)I"⟩
abbrev cX6_event : ByteArray := prog_1_method_24_code
def yX6_event : MethodName := ⟨RX6, "event", "(II)I"⟩
abbrev cX6_undo : ByteArray := prog_1_method_25_code
def yX6_undo : MethodName := ⟨RX6, "undo", "()I"⟩
abbrev cX6_type : ByteArray := prog_1_method_26_code
def yX6_type : MethodName := ⟨RX6, "type", "(I)I"⟩
abbrev cX6_clearText : ByteArray := prog_1_method_27_code
def yX6_clearText : MethodName := ⟨RX6, "clearText", "()I"⟩
abbrev cX6_fault : ByteArray := prog_1_method_28_code
def yX6_fault : MethodName := ⟨RX6, "fault", "(I)I"⟩
abbrev cX6_record : ByteArray := prog_1_method_29_code
def yX6_record : MethodName := ⟨RX6, "record", "()V"⟩
abbrev cX6_isUnit : ByteArray := prog_1_method_30_code
def yX6_isUnit : MethodName := ⟨RX6, "isUnit", "(I)Z"⟩
abbrev cX6_isBatch : ByteArray := prog_1_method_31_code
def yX6_isBatch : MethodName := ⟨RX6, "isBatch", "(I)Z"⟩
abbrev cX6_isRecipe : ByteArray := prog_1_method_32_code
def yX6_isRecipe : MethodName := ⟨RX6, "isRecipe", "(I)Z"⟩
abbrev cX6_isPriority : ByteArray := prog_1_method_33_code
def yX6_isPriority : MethodName := ⟨RX6, "isPriority", "(I)Z"⟩
abbrev cX6_isWithin : ByteArray := prog_1_method_34_code
def yX6_isWithin : MethodName := ⟨RX6, "isWithin", "(III)Z"⟩
abbrev cX6_orNotFound : ByteArray := prog_1_method_35_code
def yX6_orNotFound : MethodName := ⟨RX6, "orNotFound", "(I)I"⟩
abbrev cX6_oneIf : ByteArray := prog_1_method_36_code
def yX6_oneIf : MethodName := ⟨RX6, "oneIf", "(Z)I"⟩
abbrev cX6_bitsOf : ByteArray := prog_1_method_37_code
def yX6_bitsOf : MethodName := ⟨RX6, "bitsOf", "(F)I"⟩
def RX7 : String := "BatchExecutiveModel"
def TX7 : u_T := fun k => match k with
  | 0 => ("BatchExecutiveModel", "m", "[I", true)
  | 1 => ("BatchExecutiveModel", "spare", "[I", true)
  | 2 => ("BatchExecutiveModel", "saved", "[I", true)
  | 3 => ("BatchExecutiveModel", "savedCount", "I", false)
  | 4 => ("BatchExecutiveModel", "text", "[I", true)
  | 5 => ("BatchExecutiveModel", "textLength", "I", false)
  | 6 => ("BatchExecutiveModel", "at", "I", false)
  | 7 => ("BatchExecutiveModel", "faultReason", "I", false)
  | 8 => ("BatchExecutiveModel", "number", "I", false)
  | 9 => ("BatchExecutiveModel", "read", "[I", true)
  | _ => ("BatchExecutiveModel", "order", "[I", true)
def tyX7 : Nat → FieldType := fun k => match k with
  | 0 => .array .int
  | 1 => .array .int
  | 2 => .array .int
  | 3 => .int
  | 4 => .array .int
  | 5 => .int
  | 6 => .int
  | 7 => .int
  | 8 => .int
  | 9 => .array .int
  | _ => .array .int
theorem nmX7 : ∀ a, a < 11 → ∀ b, b < 11 → a ≠ b → (TX7 a).2.1 ≠ (TX7 b).2.1 := by decide +kernel
theorem tyX7_ok : ∀ k, k < 11 → parseFieldDescriptor (TX7 k).2.2.1 = some (tyX7 k) := by decide +kernel
abbrev cX7_init : ByteArray := prog_9_method_1_code
def yX7_init : MethodName := ⟨RX7, "<init>", "()V"⟩
abbrev cX7_in : ByteArray := prog_9_method_2_code
def yX7_in : MethodName := ⟨RX7, "in", "(III)Z"⟩
abbrev cX7_bring : ByteArray := prog_9_method_3_code
def yX7_bring : MethodName := ⟨RX7, "bring", "([II[II)V"⟩
abbrev cX7_keep : ByteArray := prog_9_method_4_code
def yX7_keep : MethodName := ⟨RX7, "keep", "()V"⟩
abbrev cX7_isUnit : ByteArray := prog_9_method_5_code
def yX7_isUnit : MethodName := ⟨RX7, "isUnit", "(I)Z"⟩
abbrev cX7_isBatch : ByteArray := prog_9_method_6_code
def yX7_isBatch : MethodName := ⟨RX7, "isBatch", "(I)Z"⟩
abbrev cX7_ofUnit : ByteArray := prog_9_method_7_code
def yX7_ofUnit : MethodName := ⟨RX7, "ofUnit", "(II)I"⟩
abbrev cX7_putUnit : ByteArray := prog_9_method_8_code
def yX7_putUnit : MethodName := ⟨RX7, "putUnit", "(III)V"⟩
abbrev cX7_of : ByteArray := prog_9_method_9_code
def yX7_of : MethodName := ⟨RX7, "of", "(II)I"⟩
abbrev cX7_put : ByteArray := prog_9_method_10_code
def yX7_put : MethodName := ⟨RX7, "put", "(III)V"⟩
abbrev cX7_many : ByteArray := prog_9_method_11_code
def yX7_many : MethodName := ⟨RX7, "many", "(I)I"⟩
abbrev cX7_note : ByteArray := prog_9_method_12_code
def yX7_note : MethodName := ⟨RX7, "note", "(II)V"⟩
abbrev cX7_unit : ByteArray := prog_9_method_13_code
def yX7_unit : MethodName := ⟨RX7, "unit", "(II)I"⟩
abbrev cX7_isFree : ByteArray := prog_9_method_14_code
def yX7_isFree : MethodName := ⟨RX7, "isFree", "(I)Z"⟩
abbrev cX7_releaseUnit : ByteArray := prog_9_method_15_code
def yX7_releaseUnit : MethodName := ⟨RX7, "releaseUnit", "(I)V"⟩
abbrev cX7_releaseShared : ByteArray := prog_9_method_16_code
def yX7_releaseShared : MethodName := ⟨RX7, "releaseShared", "(I)V"⟩
abbrev cX7_endsBy : ByteArray := prog_9_method_17_code
def yX7_endsBy : MethodName := ⟨RX7, "endsBy", "(III)V"⟩
abbrev cX7_holds : ByteArray := prog_9_method_18_code
def yX7_holds : MethodName := ⟨RX7, "holds", "(I)V"⟩
abbrev cX7_isActive : ByteArray := prog_9_method_19_code
def yX7_isActive : MethodName := ⟨RX7, "isActive", "(I)Z"⟩
abbrev cX7_fail : ByteArray := prog_9_method_20_code
def yX7_fail : MethodName := ⟨RX7, "fail", "(I)I"⟩
abbrev cX7_broken : ByteArray := prog_9_method_21_code
def yX7_broken : MethodName := ⟨RX7, "broken", "()I"⟩
abbrev cX7_repair : ByteArray := prog_9_method_22_code
def yX7_repair : MethodName := ⟨RX7, "repair", "(I)I"⟩
abbrev cX7_unitInfo : ByteArray := prog_9_method_23_code
def yX7_unitInfo : MethodName := ⟨RX7, "unitInfo", "(II)I"⟩
abbrev cX7_shared : ByteArray := prog_9_method_24_code
def yX7_shared : MethodName := ⟨RX7, "shared", "(I)I"⟩
abbrev cX7_setCleaning : ByteArray := prog_9_method_25_code
def yX7_setCleaning : MethodName := ⟨RX7, "setCleaning", "(I)I"⟩
abbrev cX7_kindOf : ByteArray := prog_9_method_26_code
def yX7_kindOf : MethodName := ⟨RX7, "kindOf", "(I)I"⟩
abbrev cX7_durationOf : ByteArray := prog_9_method_27_code
def yX7_durationOf : MethodName := ⟨RX7, "durationOf", "(I)I"⟩
abbrev cX7_sharedOf : ByteArray := prog_9_method_28_code
def yX7_sharedOf : MethodName := ⟨RX7, "sharedOf", "(I)I"⟩
abbrev cX7_yieldOf : ByteArray := prog_9_method_29_code
def yX7_yieldOf : MethodName := ⟨RX7, "yieldOf", "(I)I"⟩
abbrev cX7_markOf : ByteArray := prog_9_method_30_code
def yX7_markOf : MethodName := ⟨RX7, "markOf", "(I)I"⟩
abbrev cX7_phasesOf : ByteArray := prog_9_method_31_code
def yX7_phasesOf : MethodName := ⟨RX7, "phasesOf", "(II)I"⟩
abbrev cX7_phaseIn : ByteArray := prog_9_method_32_code
def yX7_phaseIn : MethodName := ⟨RX7, "phaseIn", "(III)I"⟩
abbrev cX7_phaseAt : ByteArray := prog_9_method_33_code
def yX7_phaseAt : MethodName := ⟨RX7, "phaseAt", "(II)I"⟩
abbrev cX7_phaseNow : ByteArray := prog_9_method_34_code
def yX7_phaseNow : MethodName := ⟨RX7, "phaseNow", "(I)I"⟩
abbrev cX7_isRecipe : ByteArray := prog_9_method_35_code
def yX7_isRecipe : MethodName := ⟨RX7, "isRecipe", "(I)Z"⟩
abbrev cX7_here : ByteArray := prog_9_method_36_code
def yX7_here : MethodName := ⟨RX7, "here", "()I"⟩
abbrev cX7_isFault : ByteArray := prog_9_method_37_code
def yX7_isFault : MethodName := ⟨RX7, "isFault", "()Z"⟩
abbrev cX7_readNumber : ByteArray := prog_9_method_38_code
def yX7_readNumber : MethodName := ⟨RX7, "readNumber", "(II)Z"⟩
abbrev cX7_kindBy : ByteArray := prog_9_method_39_code
def yX7_kindBy : MethodName := ⟨RX7, "kindBy", "(I)I"⟩
abbrev cX7_takes : ByteArray := prog_9_method_40_code
def yX7_takes : MethodName := ⟨RX7, "takes", "(I)Z"⟩
abbrev cX7_readPhase : ByteArray := prog_9_method_41_code
def yX7_readPhase : MethodName := ⟨RX7, "readPhase", "(I)Z"⟩
abbrev cX7_readText : ByteArray := prog_9_method_42_code
def yX7_readText : MethodName := ⟨RX7, "readText", "()I"⟩
abbrev cX7_recipe : ByteArray := prog_9_method_43_code
def yX7_recipe : MethodName := ⟨RX7, "recipe", "(I)I"⟩
abbrev cX7_versions : ByteArray := prog_9_method_44_code
def yX7_versions : MethodName := ⟨RX7, "versions", "(I)I"⟩
abbrev cX7_partOf : ByteArray := prog_9_method_45_code
def yX7_partOf : MethodName := ⟨RX7, "partOf", "(II)I"⟩
abbrev cX7_phase : ByteArray := prog_9_method_46_code
def yX7_phase : MethodName := ⟨RX7, "phase", "(IIII)I"⟩
abbrev cX7_batch : ByteArray := prog_9_method_47_code
def yX7_batch : MethodName := ⟨RX7, "batch", "(IIII)I"⟩
abbrev cX7_start : ByteArray := prog_9_method_48_code
def yX7_start : MethodName := ⟨RX7, "start", "(I)I"⟩
abbrev cX7_hold : ByteArray := prog_9_method_49_code
def yX7_hold : MethodName := ⟨RX7, "hold", "(I)I"⟩
abbrev cX7_left : ByteArray := prog_9_method_50_code
def yX7_left : MethodName := ⟨RX7, "left", "(I)I"⟩
abbrev cX7_restart : ByteArray := prog_9_method_51_code
def yX7_restart : MethodName := ⟨RX7, "restart", "(I)I"⟩
abbrev cX7_stop : ByteArray := prog_9_method_52_code
def yX7_stop : MethodName := ⟨RX7, "stop", "(I)I"⟩
abbrev cX7_abort : ByteArray := prog_9_method_53_code
def yX7_abort : MethodName := ⟨RX7, "abort", "(I)I"⟩
abbrev cX7_priority : ByteArray := prog_9_method_54_code
def yX7_priority : MethodName := ⟨RX7, "priority", "(II)I"⟩
abbrev cX7_batchOf : ByteArray := prog_9_method_55_code
def yX7_batchOf : MethodName := ⟨RX7, "batchOf", "(II)I"⟩
abbrev cX7_batchInfo : ByteArray := prog_9_method_56_code
def yX7_batchInfo : MethodName := ⟨RX7, "batchInfo", "(II)I"⟩
abbrev cX7_unitFor : ByteArray := prog_9_method_57_code
def yX7_unitFor : MethodName := ⟨RX7, "unitFor", "(II)I"⟩
abbrev cX7_waitsForOther : ByteArray := prog_9_method_58_code
def yX7_waitsForOther : MethodName := ⟨RX7, "waitsForOther", "(I)Z"⟩
abbrev cX7_waitsForShared : ByteArray := prog_9_method_59_code
def yX7_waitsForShared : MethodName := ⟨RX7, "waitsForShared", "(I)Z"⟩
abbrev cX7_clean : ByteArray := prog_9_method_60_code
def yX7_clean : MethodName := ⟨RX7, "clean", "()V"⟩
abbrev cX7_reason : ByteArray := prog_9_method_61_code
def yX7_reason : MethodName := ⟨RX7, "reason", "(I)I"⟩
abbrev cX7_waits : ByteArray := prog_9_method_62_code
def yX7_waits : MethodName := ⟨RX7, "waits", "(I)I"⟩
abbrev cX7_sort : ByteArray := prog_9_method_63_code
def yX7_sort : MethodName := ⟨RX7, "sort", "()I"⟩
abbrev cX7_inOrder : ByteArray := prog_9_method_64_code
def yX7_inOrder : MethodName := ⟨RX7, "inOrder", "(I)I"⟩
abbrev cX7_ends : ByteArray := prog_9_method_65_code
def yX7_ends : MethodName := ⟨RX7, "ends", "(I)V"⟩
abbrev cX7_work : ByteArray := prog_9_method_66_code
def yX7_work : MethodName := ⟨RX7, "work", "(I)V"⟩
abbrev cX7_tick : ByteArray := prog_9_method_67_code
def yX7_tick : MethodName := ⟨RX7, "tick", "()V"⟩
abbrev cX7_run : ByteArray := prog_9_method_68_code
def yX7_run : MethodName := ⟨RX7, "run", "(I)I"⟩
abbrev cX7_ticksTo : ByteArray := prog_9_method_69_code
def yX7_ticksTo : MethodName := ⟨RX7, "ticksTo", "(I)I"⟩
abbrev cX7_freeUnits : ByteArray := prog_9_method_70_code
def yX7_freeUnits : MethodName := ⟨RX7, "freeUnits", "()I"⟩
abbrev cX7_worked : ByteArray := prog_9_method_71_code
def yX7_worked : MethodName := ⟨RX7, "worked", "()I"⟩
abbrev cX7_freeShared : ByteArray := prog_9_method_72_code
def yX7_freeShared : MethodName := ⟨RX7, "freeShared", "()I"⟩
abbrev cX7_count : ByteArray := prog_9_method_73_code
def yX7_count : MethodName := ⟨RX7, "count", "(I)I"⟩
abbrev cX7_event : ByteArray := prog_9_method_74_code
def yX7_event : MethodName := ⟨RX7, "event", "(II)I"⟩
abbrev cX7_undo : ByteArray := prog_9_method_75_code
def yX7_undo : MethodName := ⟨RX7, "undo", "()I"⟩
abbrev cX7_type : ByteArray := prog_9_method_76_code
def yX7_type : MethodName := ⟨RX7, "type", "(I)I"⟩
abbrev cX7_clearText : ByteArray := prog_9_method_77_code
def yX7_clearText : MethodName := ⟨RX7, "clearText", "()I"⟩
abbrev cX7_fault : ByteArray := prog_9_method_78_code
def yX7_fault : MethodName := ⟨RX7, "fault", "(I)I"⟩
def RJxf58ca : String := "java/lang/Float"
def TJxf58ca : u_T := fun k => match k with
  | _ => ("", "", "", false)
def tyJxf58ca : Nat → FieldType := fun k => match k with
  | _ => .int
theorem nmJxf58ca : ∀ a, a < 0 → ∀ b, b < 0 → a ≠ b → (TJxf58ca a).2.1 ≠ (TJxf58ca b).2.1 := by decide +kernel
theorem tyJxf58ca_ok : ∀ k, k < 0 → parseFieldDescriptor (TJxf58ca k).2.2.1 = some (tyJxf58ca k) := by decide +kernel
abbrev cJxf58ca_isNaN_12338 : ByteArray := prog_10_method_6_code
def yJxf58ca_isNaN_12338 : MethodName := ⟨RJxf58ca, "isNaN", "(F)Z"⟩
abbrev cJxf58ca_floatToIntBits_5c35a : ByteArray := prog_10_method_24_code
def yJxf58ca_floatToIntBits_5c35a : MethodName := ⟨RJxf58ca, "floatToIntBits", "(F)I"⟩
def RJ10 : String := "java/lang/System"
def TJ10 : u_T := fun k => match k with
  | _ => ("", "", "", false)
def tyJ10 : Nat → FieldType := fun k => match k with
  | _ => .int
theorem nmJ10 : ∀ a, a < 0 → ∀ b, b < 0 → a ≠ b → (TJ10 a).2.1 ≠ (TJ10 b).2.1 := by decide +kernel
theorem tyJ10_ok : ∀ k, k < 0 → parseFieldDescriptor (TJ10 k).2.2.1 = some (tyJ10 k) := by decide +kernel
def RL : String := "BatchExecutiveLaw"
abbrev cL_law : ByteArray := code
def yL_law : MethodName := ⟨RL, "law", "([I)Z"⟩
abbrev vwCl : List vw_C := [(RX0, TX0, 10), (RX1, TX1, 2), (RX2, TX2, 5), (RX3, TX3, 12), (RX4, TX4, 7), (RX5, TX5, 6), (RX6, TX6, 6), (RX7, TX7, 11)]
end
section
/-! the words that every method is given: those of the tables that calls leave as they are -/
def xw : List Cond := lw_tbl.filter goodWord
theorem xw_good : GoodIn lw_tbl xw := fun w h => ⟨(List.mem_filter.mp h).1, good_of_word (List.mem_filter.mp h).2⟩
theorem xw_self {ws : List Cond} (h : ∀ w ∈ ws, w ∈ xw) : GoodIn xw ws := fun w hw => ⟨h w hw, good_of_word (List.mem_filter.mp (h w hw)).2⟩
theorem xw_of (ws : List Cond) (ps : List Nat) (hp : ws = ps.filterMap (fun i => lw_tbl[i]?)) (h : ws.all goodWord = true) : ∀ w ∈ ws, w ∈ xw := by
  intro w hw
  have h1 := List.all_eq_true.mp h w hw
  rw [hp] at hw
  obtain ⟨i, -, hi⟩ := List.mem_filterMap.mp hw
  exact List.mem_filter.mpr ⟨List.mem_of_getElem? hi, h1⟩
set_option maxRecDepth 20000 in
theorem xwc0 : ∀ w ∈ ([.selects RX6 yX6_record yX6_record, .selects RX6 yX6_isUnit yX6_isUnit, .selects RX3 yX3_releasePieces yX3_releasePieces, .selects RX4 yX4_readPhase yX4_readPhase, .selects RX4 yX4_current yX4_current, .selects RX4 yX4_blameCurrent yX4_blameCurrent, .selects RX4 yX4_blame yX4_blame, .selects RX4 yX4_readRest yX4_readRest, .selects RX4 yX4_readNumber yX4_readNumber, .selects RX4 yX4_passes yX4_passes, .selects RX4 yX4_readPiece yX4_readPiece, .selects RX6 yX6_isBatch yX6_isBatch, .selects RX3 yX3_valueOf yX3_valueOf, .selects RX3 yX3_bringToEnd yX3_bringToEnd, .selects RX3 yX3_releaseUnit yX3_releaseUnit, .selects RX3 yX3_unitFor yX3_unitFor, .selects RX3 yX3_insertInOrder yX3_insertInOrder, .selects RX3 yX3_cleanUnits yX3_cleanUnits, .selects RX3 yX3_moveOn yX3_moveOn, .selects RX3 yX3_takeUnit yX3_takeUnit, .selects RX3 yX3_work yX3_work, .selects RX3 yX3_endPhase yX3_endPhase, .selects RX7 yX7_keep yX7_keep, .selects RX7 yX7_putUnit yX7_putUnit, .selects RX7 yX7_isUnit yX7_isUnit, .selects RX7 yX7_ofUnit yX7_ofUnit, .selects RX7 yX7_isActive yX7_isActive, .selects RX7 yX7_of yX7_of, .selects RX7 yX7_holds yX7_holds, .selects RX7 yX7_releaseShared yX7_releaseShared] : List Cond), w ∈ xw := xw_of _ [0, 1, 2, 3, 4, 5, 6, 7, 8, 9, 10, 11, 12, 13, 14, 15, 16, 17, 18, 19, 20, 21, 22, 23, 24, 25, 26, 27, 28, 29] (by decide +kernel) (by decide +kernel)
set_option maxRecDepth 20000 in
theorem xwc1 : ∀ w ∈ ([.selects RX7 yX7_put yX7_put, .selects RX7 yX7_note yX7_note, .selects RX7 yX7_broken yX7_broken, .selects RX7 yX7_isFree yX7_isFree, .selects RX7 yX7_readText yX7_readText, .selects RX7 yX7_readPhase yX7_readPhase, .selects RX7 yX7_here yX7_here, .selects RX7 yX7_isFault yX7_isFault, .selects RX7 yX7_readNumber yX7_readNumber, .selects RX7 yX7_takes yX7_takes, .selects RX7 yX7_phasesOf yX7_phasesOf, .selects RX7 yX7_phaseIn yX7_phaseIn, .selects RX7 yX7_isBatch yX7_isBatch, .selects RX7 yX7_many yX7_many, .selects RX7 yX7_phaseNow yX7_phaseNow, .selects RX7 yX7_phaseAt yX7_phaseAt, .selects RX7 yX7_left yX7_left, .selects RX7 yX7_endsBy yX7_endsBy, .selects RX7 yX7_releaseUnit yX7_releaseUnit, .selects RX7 yX7_batchOf yX7_batchOf, .selects RX7 yX7_clean yX7_clean, .selects RX7 yX7_reason yX7_reason, .selects RX7 yX7_waitsForOther yX7_waitsForOther, .selects RX7 yX7_unitFor yX7_unitFor, .selects RX7 yX7_waitsForShared yX7_waitsForShared, .selects RX7 yX7_sort yX7_sort, .selects RX7 yX7_tick yX7_tick, .selects RX7 yX7_work yX7_work, .selects RX7 yX7_ends yX7_ends, .selects RX7 yX7_freeUnits yX7_freeUnits] : List Cond), w ∈ xw := xw_of _ [30, 31, 32, 33, 34, 35, 36, 37, 38, 39, 40, 41, 42, 43, 44, 45, 46, 47, 48, 49, 50, 51, 52, 53, 54, 55, 56, 57, 58, 59] (by decide +kernel) (by decide +kernel)
set_option maxRecDepth 20000 in
theorem xwc2 : ∀ w ∈ ([.selects RX7 yX7_worked yX7_worked, .selects RX7 yX7_freeShared yX7_freeShared, .initialized RL, .initialized RX6, .initialized RX1, .initialized RX4, .initialized RX3, .initialized RX2, .initialized RX5, .initialized RX0, .initialized RX7, .initialized RJ10, .initialized RJxf58ca, .classLink RL 7 "BatchExecutive", .instantiable RX6 6, .methodLink RL 9 yX6_init, .instanceMethod yX6_init, .code yX6_init cX6_init 2 none, .methodLink RX6 1 objectInit, .instanceMethod objectInit, .code objectInit object_method_1_code 1 none, .classLink RX6 7 "BatchExecutive$Book", .instantiable RX1 2, .instanceMethod yX1_init, .code yX1_init cX1_init 1 none, .methodLink RX1 3 objectInit, .classLink RX1 15 "[[I", .fieldLink RX1 9 "BatchExecutive$Book" "lengths" "[I", .fieldLink RX6 125 "BatchExecutive$Book" "lengths" "[I", .fieldLink RX3 206 "BatchExecutive$Book" "lengths" "[I"] : List Cond), w ∈ xw := xw_of _ [60, 61, 62, 63, 64, 65, 66, 67, 68, 69, 70, 71, 72, 73, 74, 75, 76, 77, 78, 79, 80, 81, 82, 84, 85, 86, 87, 89, 90, 91] (by decide +kernel) (by decide +kernel)
set_option maxRecDepth 20000 in
theorem xwc3 : ∀ w ∈ ([.fieldLink RX1 17 "BatchExecutive$Book" "values" "[[I", .laysFinal RX1 "BatchExecutive$Book" "lengths" "[I", .laysFinal RX1 "BatchExecutive$Book" "values" "[[I", .arrayClass .int, .classLink RX6 16 "BatchExecutive$Text", .instantiable RX4 7, .instanceMethod yX4_init, .code yX4_init cX4_init 1 none, .methodLink RX4 3 objectInit, .classLink RX4 15 "[[I", .fieldLink RX4 9 "BatchExecutive$Text" "characters" "[C", .fieldLink RX4 17 "BatchExecutive$Text" "values" "[[I", .fieldLink RX1 26 "BatchExecutive$Text" "values" "[[I", .fieldLink RX4 20 "BatchExecutive$Text" "length" "I", .fieldLink RX6 256 "BatchExecutive$Text" "length" "I", .fieldLink RX1 20 "BatchExecutive$Text" "phaseCount" "I", .fieldLink RX4 33 "BatchExecutive$Text" "phaseCount" "I", .fieldLink RX4 30 "BatchExecutive$Text" "reason" "I", .fieldLink RX6 112 "BatchExecutive$Text" "reason" "I", .fieldLink RX4 27 "BatchExecutive$Text" "place" "I", .fieldLink RX6 269 "BatchExecutive$Text" "place" "I", .fieldLink RX4 24 "BatchExecutive$Text" "at" "I", .laysFinal RX4 "BatchExecutive$Text" "characters" "[C", .laysFinal RX4 "BatchExecutive$Text" "values" "[[I", .lays RX4 "BatchExecutive$Text" "length" "I", .lays RX4 "BatchExecutive$Text" "phaseCount" "I", .lays RX4 "BatchExecutive$Text" "reason" "I", .lays RX4 "BatchExecutive$Text" "place" "I", .lays RX4 "BatchExecutive$Text" "at" "I", .arrayClass .char] : List Cond), w ∈ xw := xw_of _ [92, 93, 95, 98, 99, 100, 102, 103, 104, 105, 106, 107, 108, 109, 110, 111, 112, 113, 114, 115, 116, 117, 118, 120, 122, 124, 126, 128, 130, 133] (by decide +kernel) (by decide +kernel)
set_option maxRecDepth 20000 in
theorem xwc4 : ∀ w ∈ ([.classLink RX6 23 "BatchExecutive$State", .instantiable RX3 12, .methodLink RX6 25 yX3_init, .instanceMethod yX3_init, .code yX3_init cX3_init 3 none, .methodLink RX3 3 objectInit, .classLink RX3 9 "BatchExecutive$Unit", .classLink RX3 17 "BatchExecutive$Batch", .classLink RX3 30 "BatchExecutive$Journal", .instantiable RX2 5, .instanceMethod yX2_init, .code yX2_init cX2_init 1 none, .methodLink RX2 3 objectInit, .fieldLink RX2 9 "BatchExecutive$Journal" "ticks" "[I", .fieldLink RX2 15 "BatchExecutive$Journal" "batches" "[I", .fieldLink RX2 18 "BatchExecutive$Journal" "happenings" "[I", .fieldLink RX2 25 "BatchExecutive$Journal" "length" "I", .fieldLink RX6 248 "BatchExecutive$Journal" "length" "I", .fieldLink RX2 21 "BatchExecutive$Journal" "next" "I", .laysFinal RX2 "BatchExecutive$Journal" "ticks" "[I", .laysFinal RX2 "BatchExecutive$Journal" "batches" "[I", .laysFinal RX2 "BatchExecutive$Journal" "happenings" "[I", .lays RX2 "BatchExecutive$Journal" "length" "I", .lays RX2 "BatchExecutive$Journal" "next" "I", .instantiable RX5 6, .instanceMethod yX5_init, .code yX5_init cX5_init 1 none, .methodLink RX5 3 objectInit, .fieldLink RX5 9 "BatchExecutive$Unit" "kind" "I", .fieldLink RX6 79 "BatchExecutive$Unit" "kind" "I"] : List Cond), w ∈ xw := xw_of _ [134, 135, 136, 137, 138, 139, 140, 142, 144, 145, 147, 148, 149, 150, 151, 152, 153, 154, 155, 156, 158, 160, 162, 164, 167, 169, 170, 171, 172, 173] (by decide +kernel) (by decide +kernel)
set_option maxRecDepth 20000 in
theorem xwc5 : ∀ w ∈ ([.fieldLink RX3 105 "BatchExecutive$Unit" "kind" "I", .fieldLink RX5 15 "BatchExecutive$Unit" "capacity" "I", .fieldLink RX6 82 "BatchExecutive$Unit" "capacity" "I", .fieldLink RX3 108 "BatchExecutive$Unit" "capacity" "I", .fieldLink RX5 18 "BatchExecutive$Unit" "holder" "I", .fieldLink RX3 83 "BatchExecutive$Unit" "holder" "I", .fieldLink RX6 85 "BatchExecutive$Unit" "holder" "I", .fieldLink RX5 21 "BatchExecutive$Unit" "cleaning" "I", .fieldLink RX6 92 "BatchExecutive$Unit" "cleaning" "I", .fieldLink RX3 117 "BatchExecutive$Unit" "cleaning" "I", .fieldLink RX5 24 "BatchExecutive$Unit" "worked" "I", .fieldLink RX6 95 "BatchExecutive$Unit" "worked" "I", .fieldLink RX3 98 "BatchExecutive$Unit" "worked" "I", .fieldLink RX5 27 "BatchExecutive$Unit" "broken" "Z", .fieldLink RX6 62 "BatchExecutive$Unit" "broken" "Z", .fieldLink RX3 79 "BatchExecutive$Unit" "broken" "Z", .lays RX5 "BatchExecutive$Unit" "kind" "I", .lays RX5 "BatchExecutive$Unit" "capacity" "I", .lays RX5 "BatchExecutive$Unit" "holder" "I", .lays RX5 "BatchExecutive$Unit" "cleaning" "I", .lays RX5 "BatchExecutive$Unit" "worked" "I", .lays RX5 "BatchExecutive$Unit" "broken" "Z", .instantiable RX0 10, .instanceMethod yX0_init, .code yX0_init cX0_init 1 none, .methodLink RX0 3 objectInit, .fieldLink RX0 9 "BatchExecutive$Batch" "recipe" "I", .fieldLink RX3 127 "BatchExecutive$Batch" "recipe" "I", .fieldLink RX6 189 "BatchExecutive$Batch" "recipe" "I", .fieldLink RX0 15 "BatchExecutive$Batch" "version" "I"] : List Cond), w ∈ xw := xw_of _ [174, 175, 176, 177, 178, 179, 180, 181, 182, 183, 184, 185, 186, 187, 188, 189, 190, 192, 194, 196, 198, 200, 203, 205, 206, 207, 208, 209, 210, 211] (by decide +kernel) (by decide +kernel)
set_option maxRecDepth 20000 in
theorem xwc6 : ∀ w ∈ ([.fieldLink RX3 130 "BatchExecutive$Batch" "version" "I", .fieldLink RX6 192 "BatchExecutive$Batch" "version" "I", .fieldLink RX0 18 "BatchExecutive$Batch" "size" "I", .fieldLink RX3 111 "BatchExecutive$Batch" "size" "I", .fieldLink RX6 195 "BatchExecutive$Batch" "size" "I", .fieldLink RX0 21 "BatchExecutive$Batch" "priority" "I", .fieldLink RX6 186 "BatchExecutive$Batch" "priority" "I", .fieldLink RX3 174 "BatchExecutive$Batch" "priority" "I", .fieldLink RX0 24 "BatchExecutive$Batch" "before" "I", .fieldLink RX6 198 "BatchExecutive$Batch" "before" "I", .fieldLink RX3 159 "BatchExecutive$Batch" "before" "I", .fieldLink RX0 27 "BatchExecutive$Batch" "state" "I", .fieldLink RX6 152 "BatchExecutive$Batch" "state" "I", .fieldLink RX3 121 "BatchExecutive$Batch" "state" "I", .fieldLink RX0 30 "BatchExecutive$Batch" "phase" "I", .fieldLink RX3 139 "BatchExecutive$Batch" "phase" "I", .fieldLink RX6 201 "BatchExecutive$Batch" "phase" "I", .fieldLink RX0 33 "BatchExecutive$Batch" "ticksDone" "I", .fieldLink RX3 124 "BatchExecutive$Batch" "ticksDone" "I", .fieldLink RX0 36 "BatchExecutive$Batch" "unit" "I", .fieldLink RX3 114 "BatchExecutive$Batch" "unit" "I", .fieldLink RX6 204 "BatchExecutive$Batch" "unit" "I", .fieldLink RX0 39 "BatchExecutive$Batch" "amount" "F", .fieldLink RX6 210 "BatchExecutive$Batch" "amount" "F", .fieldLink RX3 201 "BatchExecutive$Batch" "amount" "F", .lays RX0 "BatchExecutive$Batch" "recipe" "I", .lays RX0 "BatchExecutive$Batch" "version" "I", .lays RX0 "BatchExecutive$Batch" "size" "I", .lays RX0 "BatchExecutive$Batch" "priority" "I", .lays RX0 "BatchExecutive$Batch" "before" "I"] : List Cond), w ∈ xw := xw_of _ [212, 213, 214, 215, 216, 217, 218, 219, 220, 221, 222, 223, 224, 225, 226, 227, 228, 229, 230, 231, 232, 233, 234, 235, 236, 237, 239, 241, 243, 245] (by decide +kernel) (by decide +kernel)
set_option maxRecDepth 20000 in
theorem xwc7 : ∀ w ∈ ([.lays RX0 "BatchExecutive$Batch" "state" "I", .lays RX0 "BatchExecutive$Batch" "phase" "I", .lays RX0 "BatchExecutive$Batch" "ticksDone" "I", .lays RX0 "BatchExecutive$Batch" "unit" "I", .lays RX0 "BatchExecutive$Batch" "amount" "F", .fieldLink RX3 44 "BatchExecutive$State" "book" "LBatchExecutive$Book;", .fieldLink RX3 11 "BatchExecutive$State" "units" "[LBatchExecutive$Unit;", .fieldLink RX6 58 "BatchExecutive$State" "units" "[LBatchExecutive$Unit;", .fieldLink RX3 19 "BatchExecutive$State" "batches" "[LBatchExecutive$Batch;", .fieldLink RX6 148 "BatchExecutive$State" "batches" "[LBatchExecutive$Batch;", .fieldLink RX3 23 "BatchExecutive$State" "pieceHolders" "[I", .fieldLink RX6 101 "BatchExecutive$State" "pieceHolders" "[I", .fieldLink RX3 27 "BatchExecutive$State" "latestVersions" "[I", .fieldLink RX6 115 "BatchExecutive$State" "latestVersions" "[I", .fieldLink RX3 33 "BatchExecutive$State" "journal" "LBatchExecutive$Journal;", .fieldLink RX6 244 "BatchExecutive$State" "journal" "LBatchExecutive$Journal;", .fieldLink RX3 37 "BatchExecutive$State" "order" "[I", .fieldLink RX6 227 "BatchExecutive$State" "order" "[I", .fieldLink RX3 50 "BatchExecutive$State" "unitCount" "I", .fieldLink RX6 43 "BatchExecutive$State" "unitCount" "I", .fieldLink RX3 57 "BatchExecutive$State" "batchCount" "I", .fieldLink RX6 141 "BatchExecutive$State" "batchCount" "I", .fieldLink RX6 224 "BatchExecutive$State" "orderCount" "I", .fieldLink RX3 168 "BatchExecutive$State" "orderCount" "I", .fieldLink RX3 72 "BatchExecutive$State" "ticks" "I", .fieldLink RX6 230 "BatchExecutive$State" "ticks" "I", .fieldLink RX3 40 "BatchExecutive$State" "cleaning" "I", .fieldLink RX6 105 "BatchExecutive$State" "cleaning" "I", .laysFinal RX3 "BatchExecutive$State" "book" "LBatchExecutive$Book;", .laysFinal RX3 "BatchExecutive$State" "units" "[LBatchExecutive$Unit;"] : List Cond), w ∈ xw := xw_of _ [247, 249, 251, 253, 255, 258, 259, 260, 261, 262, 263, 264, 265, 266, 267, 268, 269, 270, 271, 272, 273, 274, 275, 276, 277, 278, 279, 280, 281, 283] (by decide +kernel) (by decide +kernel)
set_option maxRecDepth 20000 in
theorem xwc8 : ∀ w ∈ ([.laysFinal RX3 "BatchExecutive$State" "batches" "[LBatchExecutive$Batch;", .laysFinal RX3 "BatchExecutive$State" "pieceHolders" "[I", .laysFinal RX3 "BatchExecutive$State" "latestVersions" "[I", .laysFinal RX3 "BatchExecutive$State" "journal" "LBatchExecutive$Journal;", .laysFinal RX3 "BatchExecutive$State" "order" "[I", .lays RX3 "BatchExecutive$State" "unitCount" "I", .lays RX3 "BatchExecutive$State" "batchCount" "I", .lays RX3 "BatchExecutive$State" "orderCount" "I", .lays RX3 "BatchExecutive$State" "ticks" "I", .lays RX3 "BatchExecutive$State" "cleaning" "I", .fieldLink RX6 10 "BatchExecutive" "book" "LBatchExecutive$Book;", .fieldLink RX6 19 "BatchExecutive" "text" "LBatchExecutive$Text;", .fieldLink RX6 28 "BatchExecutive" "present" "LBatchExecutive$State;", .fieldLink RX6 32 "BatchExecutive" "trial" "LBatchExecutive$State;", .fieldLink RX6 35 "BatchExecutive" "past" "[LBatchExecutive$State;", .fieldLink RX6 253 "BatchExecutive" "pastCount" "I", .laysFinal RX6 "BatchExecutive" "book" "LBatchExecutive$Book;", .laysFinal RX6 "BatchExecutive" "text" "LBatchExecutive$Text;", .laysFinal RX6 "BatchExecutive" "present" "LBatchExecutive$State;", .laysFinal RX6 "BatchExecutive" "trial" "LBatchExecutive$State;", .laysFinal RX6 "BatchExecutive" "past" "[LBatchExecutive$State;", .lays RX6 "BatchExecutive" "pastCount" "I", .methodLink RL 13 yX6_unit, .instanceMethod yX6_unit, .selects RX6 yX6_unit yX6_unit, .code yX6_unit cX6_unit 3 (some .int), .methodLink RX6 39 yX6_isWithin, .static yX6_isWithin, .code yX6_isWithin cX6_isWithin 3 (some .boolean), .methodLink RX6 47 yX6_record] : List Cond), w ∈ xw := xw_of _ [285, 287, 289, 291, 293, 295, 297, 299, 301, 303, 307, 308, 309, 310, 311, 312, 313, 315, 317, 319, 321, 323, 326, 327, 328, 329, 330, 331, 332, 333] (by decide +kernel) (by decide +kernel)
set_option maxRecDepth 20000 in
theorem xwc9 : ∀ w ∈ ([.instanceMethod yX6_record, .code yX6_record cX6_record 3 none, .methodLink RX6 237 yX3_copyFrom, .instanceMethod yX3_copyFrom, .selects RX3 yX3_copyFrom yX3_copyFrom, .code yX3_copyFrom cX3_copyFrom 3 none, .methodLink RX3 53 yX5_copyFrom, .instanceMethod yX5_copyFrom, .selects RX5 yX5_copyFrom yX5_copyFrom, .code yX5_copyFrom cX5_copyFrom 2 none, .methodLink RX3 60 yX0_copyFrom, .instanceMethod yX0_copyFrom, .selects RX0 yX0_copyFrom yX0_copyFrom, .code yX0_copyFrom cX0_copyFrom 2 none, .methodLink RX3 63 ⟨"java/lang/System", "arraycopy", "(Ljava/lang/Object;ILjava/lang/Object;II)V"⟩, .static ⟨"java/lang/System", "arraycopy", "(Ljava/lang/Object;ILjava/lang/Object;II)V"⟩, .native ⟨"java/lang/System", "arraycopy", "(Ljava/lang/Object;ILjava/lang/Object;II)V"⟩, .methodLink RX3 69 yX2_copyFrom, .instanceMethod yX2_copyFrom, .selects RX2 yX2_copyFrom yX2_copyFrom, .code yX2_copyFrom cX2_copyFrom 2 none, .methodLink RX2 28 ⟨"java/lang/System", "arraycopy", "(Ljava/lang/Object;ILjava/lang/Object;II)V"⟩, .methodLink RX6 50 yX3_addUnit, .instanceMethod yX3_addUnit, .selects RX3 yX3_addUnit yX3_addUnit, .code yX3_addUnit cX3_addUnit 4 (some .int), .methodLink RX3 75 yX5_reset, .instanceMethod yX5_reset, .selects RX5 yX5_reset yX5_reset, .code yX5_reset cX5_reset 3 none] : List Cond), w ∈ xw := xw_of _ [335, 336, 337, 338, 339, 340, 341, 342, 343, 344, 345, 346, 347, 348, 349, 350, 351, 352, 353, 354, 355, 356, 357, 358, 359, 360, 361, 362, 363, 364] (by decide +kernel) (by decide +kernel)
set_option maxRecDepth 20000 in
theorem xwc10 : ∀ w ∈ ([.methodLink RL 18 yX6_fail, .instanceMethod yX6_fail, .selects RX6 yX6_fail yX6_fail, .code yX6_fail cX6_fail 2 (some .int), .methodLink RX6 54 yX6_isUnit, .instanceMethod yX6_isUnit, .code yX6_isUnit cX6_isUnit 2 (some .boolean), .methodLink RX6 68 yX3_breakUnit, .instanceMethod yX3_breakUnit, .selects RX3 yX3_breakUnit yX3_breakUnit, .code yX3_breakUnit cX3_breakUnit 3 (some .int), .methodLink RX3 86 yX0_isActive, .instanceMethod yX0_isActive, .selects RX0 yX0_isActive yX0_isActive, .code yX0_isActive cX0_isActive 1 (some .boolean), .methodLink RX3 90 yX3_holdBatch, .instanceMethod yX3_holdBatch, .selects RX3 yX3_holdBatch yX3_holdBatch, .code yX3_holdBatch cX3_holdBatch 2 none, .methodLink RX3 146 yX3_releasePieces, .instanceMethod yX3_releasePieces, .code yX3_releasePieces cX3_releasePieces 3 none, .methodLink RX3 149 yX2_add, .instanceMethod yX2_add, .selects RX2 yX2_add yX2_add, .code yX2_add cX2_add 4 none, .methodLink RX6 72 yX6_orNotFound, .static yX6_orNotFound, .code yX6_orNotFound cX6_orNotFound 1 (some .int), .methodLink RL 23 yX6_repair] : List Cond), w ∈ xw := xw_of _ [365, 366, 367, 368, 369, 371, 372, 373, 374, 375, 376, 377, 378, 379, 380, 381, 382, 383, 384, 385, 387, 388, 389, 390, 391, 392, 393, 394, 395, 396] (by decide +kernel) (by decide +kernel)
set_option maxRecDepth 20000 in
theorem xwc11 : ∀ w ∈ ([.instanceMethod yX6_repair, .selects RX6 yX6_repair yX6_repair, .code yX6_repair cX6_repair 2 (some .int), .methodLink RX6 75 yX3_brokenUnits, .instanceMethod yX3_brokenUnits, .selects RX3 yX3_brokenUnits yX3_brokenUnits, .code yX3_brokenUnits cX3_brokenUnits 3 (some .int), .methodLink RL 27 yX6_unitInfo, .instanceMethod yX6_unitInfo, .selects RX6 yX6_unitInfo yX6_unitInfo, .code yX6_unitInfo cX6_unitInfo 4 (some .int), .methodLink RX6 88 yX6_oneIf, .static yX6_oneIf, .code yX6_oneIf cX6_oneIf 1 (some .int), .methodLink RX6 98 yX5_isFreeAfter, .instanceMethod yX5_isFreeAfter, .selects RX5 yX5_isFreeAfter yX5_isFreeAfter, .code yX5_isFreeAfter cX5_isFreeAfter 2 (some .boolean), .methodLink RL 31 yX6_shared, .instanceMethod yX6_shared, .selects RX6 yX6_shared yX6_shared, .code yX6_shared cX6_shared 2 (some .int), .methodLink RL 35 yX6_setCleaning, .instanceMethod yX6_setCleaning, .selects RX6 yX6_setCleaning yX6_setCleaning, .code yX6_setCleaning cX6_setCleaning 3 (some .int), .methodLink RL 39 yX6_recipe, .instanceMethod yX6_recipe, .selects RX6 yX6_recipe yX6_recipe, .code yX6_recipe cX6_recipe 3 (some .int)] : List Cond), w ∈ xw := xw_of _ [397, 398, 399, 400, 401, 402, 403, 404, 405, 406, 407, 408, 409, 410, 411, 412, 413, 414, 415, 416, 417, 418, 419, 420, 421, 422, 423, 424, 425, 426] (by decide +kernel) (by decide +kernel)
set_option maxRecDepth 20000 in
theorem xwc12 : ∀ w ∈ ([.methodLink RX6 106 yX6_isRecipe, .static yX6_isRecipe, .code yX6_isRecipe cX6_isRecipe 1 (some .boolean), .methodLink RX6 109 yX4_read, .instanceMethod yX4_read, .selects RX4 yX4_read yX4_read, .code yX4_read cX4_read 2 none, .methodLink RX4 36 yX4_readPhase, .instanceMethod yX4_readPhase, .code yX4_readPhase cX4_readPhase 2 none, .methodLink RX4 39 yX4_current, .instanceMethod yX4_current, .code yX4_current cX4_current 1 (some .int), .methodLink RX4 43 yX4_kindOf, .static yX4_kindOf, .code yX4_kindOf cX4_kindOf 1 (some .int), .methodLink RX4 47 yX4_blameCurrent, .instanceMethod yX4_blameCurrent, .code yX4_blameCurrent cX4_blameCurrent 1 none, .methodLink RX4 50 yX4_blame, .instanceMethod yX4_blame, .code yX4_blame cX4_blame 3 none, .methodLink RX4 54 yX4_readRest, .instanceMethod yX4_readRest, .code yX4_readRest cX4_readRest 2 none, .methodLink RX4 58 yX4_readNumber, .instanceMethod yX4_readNumber, .code yX4_readNumber cX4_readNumber 6 (some .int), .methodLink RX4 73 yX4_isDigit, .static yX4_isDigit] : List Cond), w ∈ xw := xw_of _ [427, 428, 429, 430, 431, 432, 433, 434, 436, 437, 438, 440, 441, 442, 443, 444, 445, 447, 448, 449, 451, 452, 453, 455, 456, 457, 459, 460, 461, 462] (by decide +kernel) (by decide +kernel)
set_option maxRecDepth 20000 in
theorem xwc13 : ∀ w ∈ ([.code yX4_isDigit cX4_isDigit 1 (some .boolean), .methodLink RX4 62 yX4_passes, .instanceMethod yX4_passes, .code yX4_passes cX4_passes 2 (some .boolean), .methodLink RX4 66 yX4_readPiece, .instanceMethod yX4_readPiece, .code yX4_readPiece cX4_readPiece 2 (some .int), .methodLink RX6 118 yX1_pageOf, .static yX1_pageOf, .code yX1_pageOf cX1_pageOf 2 (some .int), .methodLink RX6 121 yX1_write, .instanceMethod yX1_write, .selects RX1 yX1_write yX1_write, .code yX1_write cX1_write 4 none, .methodLink RX1 27 ⟨"java/lang/System", "arraycopy", "(Ljava/lang/Object;ILjava/lang/Object;II)V"⟩, .methodLink RL 43 yX6_versions, .instanceMethod yX6_versions, .selects RX6 yX6_versions yX6_versions, .code yX6_versions cX6_versions 2 (some .int), .methodLink RL 47 yX6_phase, .instanceMethod yX6_phase, .selects RX6 yX6_phase yX6_phase, .code yX6_phase cX6_phase 6 (some .int), .methodLink RX6 128 yX1_find, .instanceMethod yX1_find, .selects RX1 yX1_find yX1_find, .code yX1_find cX1_find 4 (some .int), .methodLink RL 52 yX6_batch, .instanceMethod yX6_batch, .selects RX6 yX6_batch yX6_batch] : List Cond), w ∈ xw := xw_of _ [463, 464, 466, 467, 468, 470, 471, 473, 474, 475, 476, 477, 478, 479, 480, 481, 482, 483, 484, 485, 486, 487, 488, 489, 490, 491, 492, 493, 494, 495] (by decide +kernel) (by decide +kernel)
set_option maxRecDepth 20000 in
theorem xwc14 : ∀ w ∈ ([.code yX6_batch cX6_batch 5 (some .int), .methodLink RX6 132 yX6_isPriority, .static yX6_isPriority, .code yX6_isPriority cX6_isPriority 1 (some .boolean), .methodLink RX6 135 yX6_isBatch, .instanceMethod yX6_isBatch, .code yX6_isBatch cX6_isBatch 2 (some .boolean), .methodLink RX6 138 yX3_isGivenUp, .instanceMethod yX3_isGivenUp, .selects RX3 yX3_isGivenUp yX3_isGivenUp, .code yX3_isGivenUp cX3_isGivenUp 2 (some .boolean), .methodLink RX6 144 yX3_addBatch, .instanceMethod yX3_addBatch, .selects RX3 yX3_addBatch yX3_addBatch, .code yX3_addBatch cX3_addBatch 6 (some .int), .methodLink RX3 118 yX0_reset, .instanceMethod yX0_reset, .selects RX0 yX0_reset yX0_reset, .code yX0_reset cX0_reset 6 none, .methodLink RL 56 yX6_start, .instanceMethod yX6_start, .selects RX6 yX6_start yX6_start, .code yX6_start cX6_start 2 (some .int), .methodLink RX6 157 yX3_batchesIn, .instanceMethod yX3_batchesIn, .selects RX3 yX3_batchesIn yX3_batchesIn, .code yX3_batchesIn cX3_batchesIn 4 (some .int), .methodLink RL 60 yX6_hold, .instanceMethod yX6_hold, .selects RX6 yX6_hold yX6_hold] : List Cond), w ∈ xw := xw_of _ [496, 497, 498, 499, 500, 502, 503, 504, 505, 506, 507, 508, 509, 510, 511, 512, 513, 514, 515, 516, 517, 518, 519, 520, 521, 522, 523, 524, 525, 526] (by decide +kernel) (by decide +kernel)
set_option maxRecDepth 20000 in
theorem xwc15 : ∀ w ∈ ([.code yX6_hold cX6_hold 2 (some .int), .methodLink RX6 160 yX0_isActive, .methodLink RX6 164 yX3_holdBatch, .methodLink RL 64 yX6_restart, .instanceMethod yX6_restart, .selects RX6 yX6_restart yX6_restart, .code yX6_restart cX6_restart 2 (some .int), .methodLink RX6 168 yX3_hasBrokenUnit, .instanceMethod yX3_hasBrokenUnit, .selects RX3 yX3_hasBrokenUnit yX3_hasBrokenUnit, .code yX3_hasBrokenUnit cX3_hasBrokenUnit 3 (some .boolean), .methodLink RX6 171 yX3_restartBatch, .instanceMethod yX3_restartBatch, .selects RX3 yX3_restartBatch yX3_restartBatch, .code yX3_restartBatch cX3_restartBatch 3 none, .methodLink RX3 101 yX3_valueOf, .instanceMethod yX3_valueOf, .code yX3_valueOf cX3_valueOf 3 (some .int), .methodLink RX3 133 yX1_pageOf, .methodLink RX3 142 yX1_find, .methodLink RX6 174 yX3_ticksLeft, .instanceMethod yX3_ticksLeft, .selects RX3 yX3_ticksLeft yX3_ticksLeft, .code yX3_ticksLeft cX3_ticksLeft 2 (some .int), .methodLink RL 68 yX6_stop, .instanceMethod yX6_stop, .selects RX6 yX6_stop yX6_stop, .code yX6_stop cX6_stop 3 (some .int), .methodLink RX6 177 yX3_stopBatch, .instanceMethod yX3_stopBatch] : List Cond), w ∈ xw := xw_of _ [527, 528, 529, 530, 531, 532, 533, 534, 535, 536, 537, 538, 539, 540, 541, 542, 544, 545, 546, 547, 548, 549, 550, 551, 552, 553, 554, 555, 556, 557] (by decide +kernel) (by decide +kernel)
set_option maxRecDepth 20000 in
theorem xwc16 : ∀ w ∈ ([.selects RX3 yX3_stopBatch yX3_stopBatch, .code yX3_stopBatch cX3_stopBatch 3 none, .methodLink RX3 153 yX0_isUnderWay, .instanceMethod yX0_isUnderWay, .selects RX0 yX0_isUnderWay yX0_isUnderWay, .code yX0_isUnderWay cX0_isUnderWay 1 (some .boolean), .methodLink RX3 156 yX3_bringToEnd, .instanceMethod yX3_bringToEnd, .code yX3_bringToEnd cX3_bringToEnd 4 none, .methodLink RX3 165 yX3_releaseUnit, .instanceMethod yX3_releaseUnit, .code yX3_releaseUnit cX3_releaseUnit 2 none, .methodLink RL 72 yX6_abort, .instanceMethod yX6_abort, .selects RX6 yX6_abort yX6_abort, .code yX6_abort cX6_abort 2 (some .int), .methodLink RX6 180 yX0_isAtEnd, .instanceMethod yX0_isAtEnd, .selects RX0 yX0_isAtEnd yX0_isAtEnd, .code yX0_isAtEnd cX0_isAtEnd 1 (some .boolean), .methodLink RX6 183 yX3_abortWithFollowing, .instanceMethod yX3_abortWithFollowing, .selects RX3 yX3_abortWithFollowing yX3_abortWithFollowing, .code yX3_abortWithFollowing cX3_abortWithFollowing 5 (some .int), .methodLink RX3 162 yX0_isAtEnd, .methodLink RL 76 yX6_priority, .instanceMethod yX6_priority, .selects RX6 yX6_priority yX6_priority, .code yX6_priority cX6_priority 4 (some .int), .methodLink RL 80 yX6_batchInfo] : List Cond), w ∈ xw := xw_of _ [558, 559, 560, 561, 562, 563, 564, 566, 567, 568, 570, 571, 572, 573, 574, 575, 576, 577, 578, 579, 580, 581, 582, 583, 584, 585, 586, 587, 588, 589] (by decide +kernel) (by decide +kernel)
set_option maxRecDepth 20000 in
theorem xwc17 : ∀ w ∈ ([.instanceMethod yX6_batchInfo, .selects RX6 yX6_batchInfo yX6_batchInfo, .code yX6_batchInfo cX6_batchInfo 4 (some .int), .methodLink RX6 207 yX0_isUnderWay, .methodLink RX6 214 yX6_bitsOf, .static yX6_bitsOf, .code yX6_bitsOf cX6_bitsOf 4 (some .int), .constantFloat RX6 272 1258291200, .methodLink RL 84 yX6_waits, .instanceMethod yX6_waits, .selects RX6 yX6_waits yX6_waits, .code yX6_waits cX6_waits 2 (some .int), .methodLink RX6 218 yX3_reasonToWait, .instanceMethod yX3_reasonToWait, .selects RX3 yX3_reasonToWait yX3_reasonToWait, .code yX3_reasonToWait cX3_reasonToWait 5 (some .int), .methodLink RX3 183 yX0_hasBegun, .instanceMethod yX0_hasBegun, .selects RX0 yX0_hasBegun yX0_hasBegun, .code yX0_hasBegun cX0_hasBegun 1 (some .boolean), .methodLink RX3 186 yX3_unitFor, .instanceMethod yX3_unitFor, .code yX3_unitFor cX3_unitFor 6 (some .int), .methodLink RX3 94 yX5_isFreeAfter, .methodLink RL 88 yX6_inOrder, .instanceMethod yX6_inOrder, .selects RX6 yX6_inOrder yX6_inOrder, .code yX6_inOrder cX6_inOrder 2 (some .int), .methodLink RX6 221 yX3_arrange, .instanceMethod yX3_arrange] : List Cond), w ∈ xw := xw_of _ [590, 591, 592, 593, 594, 595, 596, 597, 598, 599, 600, 601, 602, 603, 604, 605, 606, 607, 608, 609, 610, 612, 613, 614, 615, 616, 617, 618, 619, 620] (by decide +kernel) (by decide +kernel)
set_option maxRecDepth 20000 in
theorem xwc18 : ∀ w ∈ ([.selects RX3 yX3_arrange yX3_arrange, .code yX3_arrange cX3_arrange 2 none, .methodLink RX3 171 yX3_insertInOrder, .instanceMethod yX3_insertInOrder, .code yX3_insertInOrder cX3_insertInOrder 3 none, .methodLink RL 92 yX6_run, .instanceMethod yX6_run, .selects RX6 yX6_run yX6_run, .code yX6_run cX6_run 4 (some .int), .constant RX6 233 (50000), .methodLink RX6 234 yX3_passTick, .instanceMethod yX3_passTick, .selects RX3 yX3_passTick yX3_passTick, .code yX3_passTick cX3_passTick 4 (some .boolean), .methodLink RX3 177 yX3_cleanUnits, .instanceMethod yX3_cleanUnits, .code yX3_cleanUnits cX3_cleanUnits 3 (some .boolean), .methodLink RX3 180 yX3_moveOn, .instanceMethod yX3_moveOn, .code yX3_moveOn cX3_moveOn 4 (some .boolean), .methodLink RX3 189 yX3_reasonToWait, .methodLink RX3 192 yX3_takeUnit, .instanceMethod yX3_takeUnit, .code yX3_takeUnit cX3_takeUnit 4 (some .boolean), .methodLink RX3 195 yX3_work, .instanceMethod yX3_work, .code yX3_work cX3_work 4 none, .methodLink RX3 198 yX3_endPhase, .instanceMethod yX3_endPhase, .code yX3_endPhase cX3_endPhase 4 none] : List Cond), w ∈ xw := xw_of _ [621, 622, 623, 625, 626, 627, 628, 629, 630, 631, 632, 633, 634, 635, 636, 638, 639, 640, 642, 643, 644, 645, 647, 648, 649, 651, 652, 653, 655, 656] (by decide +kernel) (by decide +kernel)
set_option maxRecDepth 20000 in
theorem xwc19 : ∀ w ∈ ([.constantFloat RX3 205 1120403456, .methodLink RL 96 yX6_ticksTo, .instanceMethod yX6_ticksTo, .selects RX6 yX6_ticksTo yX6_ticksTo, .code yX6_ticksTo cX6_ticksTo 5 (some .int), .methodLink RL 100 yX6_count, .instanceMethod yX6_count, .selects RX6 yX6_count yX6_count, .code yX6_count cX6_count 2 (some .int), .methodLink RX6 241 yX3_freeUnits, .instanceMethod yX3_freeUnits, .selects RX3 yX3_freeUnits yX3_freeUnits, .code yX3_freeUnits cX3_freeUnits 3 (some .int), .methodLink RX6 257 yX3_workedTicks, .instanceMethod yX3_workedTicks, .selects RX3 yX3_workedTicks yX3_workedTicks, .code yX3_workedTicks cX3_workedTicks 3 (some .int), .methodLink RX6 260 yX3_freePieces, .instanceMethod yX3_freePieces, .selects RX3 yX3_freePieces yX3_freePieces, .code yX3_freePieces cX3_freePieces 3 (some .int), .methodLink RL 104 yX6_event, .instanceMethod yX6_event, .selects RX6 yX6_event yX6_event, .code yX6_event cX6_event 3 (some .int), .methodLink RX6 263 yX2_find, .instanceMethod yX2_find, .selects RX2 yX2_find yX2_find, .code yX2_find cX2_find 4 (some .int), .methodLink RL 108 yX6_undo] : List Cond), w ∈ xw := xw_of _ [657, 658, 659, 660, 661, 662, 663, 664, 665, 666, 667, 668, 669, 670, 671, 672, 673, 674, 675, 676, 677, 678, 679, 680, 681, 682, 683, 684, 685, 686] (by decide +kernel) (by decide +kernel)
set_option maxRecDepth 20000 in
theorem xwc20 : ∀ w ∈ ([.instanceMethod yX6_undo, .selects RX6 yX6_undo yX6_undo, .code yX6_undo cX6_undo 1 (some .int), .methodLink RL 113 yX6_type, .instanceMethod yX6_type, .selects RX6 yX6_type yX6_type, .code yX6_type cX6_type 2 (some .int), .methodLink RX6 265 yX4_append, .instanceMethod yX4_append, .selects RX4 yX4_append yX4_append, .code yX4_append cX4_append 2 none, .methodLink RL 117 yX6_clearText, .instanceMethod yX6_clearText, .selects RX6 yX6_clearText yX6_clearText, .code yX6_clearText cX6_clearText 2 (some .int), .methodLink RL 121 yX6_fault, .instanceMethod yX6_fault, .selects RX6 yX6_fault yX6_fault, .code yX6_fault cX6_fault 2 (some .int), .classLink RL 10 "BatchExecutiveModel", .instantiable RX7 11, .methodLink RL 12 yX7_init, .instanceMethod yX7_init, .code yX7_init cX7_init 2 none, .methodLink RX7 1 objectInit, .fieldLink RX7 7 "BatchExecutiveModel" "m" "[I", .fieldLink RX7 13 "BatchExecutiveModel" "spare" "[I", .fieldLink RX7 16 "BatchExecutiveModel" "saved" "[I", .fieldLink RX7 28 "BatchExecutiveModel" "savedCount" "I", .fieldLink RX7 19 "BatchExecutiveModel" "text" "[I"] : List Cond), w ∈ xw := xw_of _ [687, 688, 689, 690, 691, 692, 693, 694, 695, 696, 697, 698, 699, 700, 701, 702, 703, 704, 705, 706, 707, 708, 709, 710, 711, 712, 713, 714, 715, 716] (by decide +kernel) (by decide +kernel)
set_option maxRecDepth 20000 in
theorem xwc21 : ∀ w ∈ ([.fieldLink RX7 95 "BatchExecutiveModel" "textLength" "I", .fieldLink RX7 92 "BatchExecutiveModel" "at" "I", .fieldLink RX7 98 "BatchExecutiveModel" "faultReason" "I", .fieldLink RX7 101 "BatchExecutiveModel" "number" "I", .fieldLink RX7 22 "BatchExecutiveModel" "read" "[I", .fieldLink RX7 25 "BatchExecutiveModel" "order" "[I", .laysFinal RX7 "BatchExecutiveModel" "m" "[I", .laysFinal RX7 "BatchExecutiveModel" "spare" "[I", .laysFinal RX7 "BatchExecutiveModel" "saved" "[I", .lays RX7 "BatchExecutiveModel" "savedCount" "I", .laysFinal RX7 "BatchExecutiveModel" "text" "[I", .lays RX7 "BatchExecutiveModel" "textLength" "I", .lays RX7 "BatchExecutiveModel" "at" "I", .lays RX7 "BatchExecutiveModel" "faultReason" "I", .lays RX7 "BatchExecutiveModel" "number" "I", .laysFinal RX7 "BatchExecutiveModel" "read" "[I", .laysFinal RX7 "BatchExecutiveModel" "order" "[I", .methodLink RL 17 yX7_unit, .instanceMethod yX7_unit, .selects RX7 yX7_unit yX7_unit, .code yX7_unit cX7_unit 4 (some .int), .methodLink RX7 36 yX7_in, .static yX7_in, .code yX7_in cX7_in 3 (some .boolean), .methodLink RX7 44 yX7_keep, .instanceMethod yX7_keep, .code yX7_keep cX7_keep 2 none, .methodLink RX7 32 yX7_bring, .static yX7_bring, .code yX7_bring cX7_bring 5 none] : List Cond), w ∈ xw := xw_of _ [717, 718, 719, 720, 721, 722, 723, 725, 727, 729, 731, 733, 735, 737, 739, 741, 743, 746, 747, 748, 749, 750, 751, 752, 753, 755, 756, 757, 758, 759] (by decide +kernel) (by decide +kernel)
set_option maxRecDepth 20000 in
theorem xwc22 : ∀ w ∈ ([.methodLink RX7 47 yX7_putUnit, .instanceMethod yX7_putUnit, .code yX7_putUnit cX7_putUnit 4 none, .methodLink RL 22 yX7_fail, .instanceMethod yX7_fail, .selects RX7 yX7_fail yX7_fail, .code yX7_fail cX7_fail 3 (some .int), .methodLink RX7 68 yX7_isUnit, .instanceMethod yX7_isUnit, .code yX7_isUnit cX7_isUnit 2 (some .boolean), .methodLink RX7 51 yX7_ofUnit, .instanceMethod yX7_ofUnit, .code yX7_ofUnit cX7_ofUnit 3 (some .int), .methodLink RX7 72 yX7_isActive, .instanceMethod yX7_isActive, .code yX7_isActive cX7_isActive 2 (some .boolean), .methodLink RX7 40 yX7_of, .instanceMethod yX7_of, .code yX7_of cX7_of 3 (some .int), .methodLink RX7 75 yX7_holds, .instanceMethod yX7_holds, .code yX7_holds cX7_holds 2 none, .methodLink RX7 57 yX7_releaseShared, .instanceMethod yX7_releaseShared, .code yX7_releaseShared cX7_releaseShared 3 none, .methodLink RX7 54 yX7_put, .instanceMethod yX7_put, .code yX7_put cX7_put 4 none, .methodLink RX7 64 yX7_note, .instanceMethod yX7_note] : List Cond), w ∈ xw := xw_of _ [760, 762, 763, 764, 765, 766, 767, 768, 770, 771, 772, 774, 775, 776, 778, 779, 780, 782, 783, 784, 786, 787, 788, 790, 791, 792, 794, 795, 796, 798] (by decide +kernel) (by decide +kernel)
set_option maxRecDepth 20000 in
theorem xwc23 : ∀ w ∈ ([.code yX7_note cX7_note 4 none, .methodLink RL 26 yX7_repair, .instanceMethod yX7_repair, .selects RX7 yX7_repair yX7_repair, .code yX7_repair cX7_repair 2 (some .int), .methodLink RX7 78 yX7_broken, .instanceMethod yX7_broken, .code yX7_broken cX7_broken 3 (some .int), .methodLink RL 30 yX7_unitInfo, .instanceMethod yX7_unitInfo, .selects RX7 yX7_unitInfo yX7_unitInfo, .code yX7_unitInfo cX7_unitInfo 3 (some .int), .methodLink RX7 82 yX7_isFree, .instanceMethod yX7_isFree, .code yX7_isFree cX7_isFree 2 (some .boolean), .methodLink RL 34 yX7_shared, .instanceMethod yX7_shared, .selects RX7 yX7_shared yX7_shared, .code yX7_shared cX7_shared 2 (some .int), .methodLink RL 38 yX7_setCleaning, .instanceMethod yX7_setCleaning, .selects RX7 yX7_setCleaning yX7_setCleaning, .code yX7_setCleaning cX7_setCleaning 3 (some .int), .methodLink RL 42 yX7_recipe, .instanceMethod yX7_recipe, .selects RX7 yX7_recipe yX7_recipe, .code yX7_recipe cX7_recipe 5 (some .int), .methodLink RX7 125 yX7_isRecipe, .static yX7_isRecipe, .code yX7_isRecipe cX7_isRecipe 1 (some .boolean)] : List Cond), w ∈ xw := xw_of _ [799, 800, 801, 802, 803, 804, 806, 807, 808, 809, 810, 811, 812, 814, 815, 816, 817, 818, 819, 820, 821, 822, 823, 824, 825, 826, 827, 828, 829, 830] (by decide +kernel) (by decide +kernel)
set_option maxRecDepth 20000 in
theorem xwc24 : ∀ w ∈ ([.methodLink RX7 128 yX7_readText, .instanceMethod yX7_readText, .code yX7_readText cX7_readText 3 (some .int), .methodLink RX7 122 yX7_readPhase, .instanceMethod yX7_readPhase, .code yX7_readPhase cX7_readPhase 6 (some .boolean), .methodLink RX7 104 yX7_here, .instanceMethod yX7_here, .code yX7_here cX7_here 1 (some .int), .methodLink RX7 111 yX7_kindBy, .static yX7_kindBy, .code yX7_kindBy cX7_kindBy 1 (some .int), .methodLink RX7 107 yX7_isFault, .instanceMethod yX7_isFault, .code yX7_isFault cX7_isFault 1 (some .boolean), .methodLink RX7 115 yX7_readNumber, .instanceMethod yX7_readNumber, .code yX7_readNumber cX7_readNumber 4 (some .boolean), .methodLink RX7 119 yX7_takes, .instanceMethod yX7_takes, .code yX7_takes cX7_takes 3 (some .boolean), .methodLink RL 46 yX7_versions, .instanceMethod yX7_versions, .selects RX7 yX7_versions yX7_versions, .code yX7_versions cX7_versions 2 (some .int), .methodLink RL 51 yX7_phase, .instanceMethod yX7_phase, .selects RX7 yX7_phase yX7_phase, .code yX7_phase cX7_phase 5 (some .int), .methodLink RX7 146 yX7_phasesOf] : List Cond), w ∈ xw := xw_of _ [831, 833, 834, 835, 837, 838, 839, 841, 842, 843, 844, 845, 846, 848, 849, 850, 852, 853, 854, 856, 857, 858, 859, 860, 861, 862, 863, 864, 865, 866] (by decide +kernel) (by decide +kernel)
set_option maxRecDepth 20000 in
theorem xwc25 : ∀ w ∈ ([.instanceMethod yX7_phasesOf, .code yX7_phasesOf cX7_phasesOf 3 (some .int), .methodLink RX7 85 yX7_phaseIn, .instanceMethod yX7_phaseIn, .code yX7_phaseIn cX7_phaseIn 4 (some .int), .methodLink RX7 149 yX7_partOf, .static yX7_partOf, .code yX7_partOf cX7_partOf 2 (some .int), .methodLink RX7 131 yX7_kindOf, .static yX7_kindOf, .code yX7_kindOf cX7_kindOf 1 (some .int), .methodLink RX7 134 yX7_durationOf, .static yX7_durationOf, .code yX7_durationOf cX7_durationOf 1 (some .int), .methodLink RX7 137 yX7_sharedOf, .static yX7_sharedOf, .code yX7_sharedOf cX7_sharedOf 1 (some .int), .methodLink RX7 140 yX7_yieldOf, .static yX7_yieldOf, .code yX7_yieldOf cX7_yieldOf 1 (some .int), .methodLink RX7 143 yX7_markOf, .static yX7_markOf, .code yX7_markOf cX7_markOf 1 (some .int), .methodLink RL 55 yX7_batch, .instanceMethod yX7_batch, .selects RX7 yX7_batch yX7_batch, .code yX7_batch cX7_batch 7 (some .int), .methodLink RX7 152 yX7_isBatch, .instanceMethod yX7_isBatch, .code yX7_isBatch cX7_isBatch 2 (some .boolean)] : List Cond), w ∈ xw := xw_of _ [868, 869, 870, 872, 873, 874, 875, 876, 877, 878, 879, 880, 881, 882, 883, 884, 885, 886, 887, 888, 889, 890, 891, 892, 893, 894, 895, 896, 898, 899] (by decide +kernel) (by decide +kernel)
set_option maxRecDepth 20000 in
theorem xwc26 : ∀ w ∈ ([.methodLink RX7 155 yJxf58ca_floatToIntBits_5c35a, .static yJxf58ca_floatToIntBits_5c35a, .code yJxf58ca_floatToIntBits_5c35a cJxf58ca_floatToIntBits_5c35a 1 (some .int), .methodLink RJxf58ca 59 yJxf58ca_isNaN_12338, .static yJxf58ca_isNaN_12338, .code yJxf58ca_isNaN_12338 cJxf58ca_isNaN_12338 1 (some .boolean), .methodLink RJxf58ca 74 ⟨"java/lang/Float", "floatToRawIntBits", "(F)I"⟩, .static ⟨"java/lang/Float", "floatToRawIntBits", "(F)I"⟩, .native ⟨"java/lang/Float", "floatToRawIntBits", "(F)I"⟩, .constant RJxf58ca 77 (2143289344), .methodLink RL 59 yX7_start, .instanceMethod yX7_start, .selects RX7 yX7_start yX7_start, .code yX7_start cX7_start 2 (some .int), .methodLink RX7 161 yX7_many, .instanceMethod yX7_many, .code yX7_many cX7_many 4 (some .int), .methodLink RL 63 yX7_hold, .instanceMethod yX7_hold, .selects RX7 yX7_hold yX7_hold, .code yX7_hold cX7_hold 2 (some .int), .methodLink RL 67 yX7_restart, .instanceMethod yX7_restart, .selects RX7 yX7_restart yX7_restart, .code yX7_restart cX7_restart 3 (some .int), .methodLink RX7 164 yX7_phaseNow, .instanceMethod yX7_phaseNow, .code yX7_phaseNow cX7_phaseNow 2 (some .int), .methodLink RX7 89 yX7_phaseAt, .instanceMethod yX7_phaseAt] : List Cond), w ∈ xw := xw_of _ [900, 901, 902, 903, 904, 905, 906, 907, 908, 909, 910, 911, 912, 913, 914, 916, 917, 918, 919, 920, 921, 922, 923, 924, 925, 926, 928, 929, 930, 932] (by decide +kernel) (by decide +kernel)
set_option maxRecDepth 20000 in
theorem xwc27 : ∀ w ∈ ([.code yX7_phaseAt cX7_phaseAt 3 (some .int), .methodLink RX7 167 yX7_left, .instanceMethod yX7_left, .code yX7_left cX7_left 2 (some .int), .methodLink RL 71 yX7_stop, .instanceMethod yX7_stop, .selects RX7 yX7_stop yX7_stop, .code yX7_stop cX7_stop 2 (some .int), .methodLink RX7 170 yX7_endsBy, .instanceMethod yX7_endsBy, .code yX7_endsBy cX7_endsBy 4 none, .methodLink RX7 61 yX7_releaseUnit, .instanceMethod yX7_releaseUnit, .code yX7_releaseUnit cX7_releaseUnit 3 none, .methodLink RL 75 yX7_abort, .instanceMethod yX7_abort, .selects RX7 yX7_abort yX7_abort, .code yX7_abort cX7_abort 6 (some .int), .methodLink RL 79 yX7_priority, .instanceMethod yX7_priority, .selects RX7 yX7_priority yX7_priority, .code yX7_priority cX7_priority 4 (some .int), .methodLink RL 83 yX7_batchInfo, .instanceMethod yX7_batchInfo, .selects RX7 yX7_batchInfo yX7_batchInfo, .code yX7_batchInfo cX7_batchInfo 3 (some .int), .methodLink RX7 177 yX7_batchOf, .instanceMethod yX7_batchOf, .code yX7_batchOf cX7_batchOf 3 (some .int), .methodLink RX7 173 ⟨"java/lang/Float", "intBitsToFloat", "(I)F"⟩] : List Cond), w ∈ xw := xw_of _ [933, 934, 936, 937, 938, 939, 940, 941, 942, 944, 945, 946, 948, 949, 950, 951, 952, 953, 954, 955, 956, 957, 958, 959, 960, 961, 962, 964, 965, 966] (by decide +kernel) (by decide +kernel)
set_option maxRecDepth 20000 in
theorem xwc28 : ∀ w ∈ ([.static ⟨"java/lang/Float", "intBitsToFloat", "(I)F"⟩, .native ⟨"java/lang/Float", "intBitsToFloat", "(I)F"⟩, .methodLink RL 87 yX7_waits, .instanceMethod yX7_waits, .selects RX7 yX7_waits yX7_waits, .code yX7_waits cX7_waits 3 (some .int), .methodLink RX7 189 yX7_clean, .instanceMethod yX7_clean, .code yX7_clean cX7_clean 2 none, .methodLink RX7 192 yX7_reason, .instanceMethod yX7_reason, .code yX7_reason cX7_reason 2 (some .int), .methodLink RX7 180 yX7_waitsForOther, .instanceMethod yX7_waitsForOther, .code yX7_waitsForOther cX7_waitsForOther 3 (some .boolean), .methodLink RX7 183 yX7_unitFor, .instanceMethod yX7_unitFor, .code yX7_unitFor cX7_unitFor 4 (some .int), .methodLink RX7 186 yX7_waitsForShared, .instanceMethod yX7_waitsForShared, .code yX7_waitsForShared cX7_waitsForShared 3 (some .boolean), .methodLink RL 91 yX7_inOrder, .instanceMethod yX7_inOrder, .selects RX7 yX7_inOrder yX7_inOrder, .code yX7_inOrder cX7_inOrder 2 (some .int), .methodLink RX7 195 yX7_sort, .instanceMethod yX7_sort, .code yX7_sort cX7_sort 4 (some .int), .methodLink RL 95 yX7_run, .instanceMethod yX7_run] : List Cond), w ∈ xw := xw_of _ [967, 968, 969, 970, 971, 972, 973, 975, 976, 977, 979, 980, 981, 983, 984, 985, 987, 988, 989, 991, 992, 993, 994, 995, 996, 997, 999, 1000, 1001, 1002] (by decide +kernel) (by decide +kernel)
set_option maxRecDepth 20000 in
theorem xwc29 : ∀ w ∈ ([.selects RX7 yX7_run yX7_run, .code yX7_run cX7_run 4 (some .int), .constant RX7 205 (50000), .methodLink RX7 206 yX7_tick, .instanceMethod yX7_tick, .code yX7_tick cX7_tick 3 none, .methodLink RX7 202 yX7_work, .instanceMethod yX7_work, .code yX7_work cX7_work 4 none, .methodLink RX7 199 yX7_ends, .instanceMethod yX7_ends, .code yX7_ends cX7_ends 5 none, .constantFloat RX7 198 1120403456, .methodLink RL 99 yX7_ticksTo, .instanceMethod yX7_ticksTo, .selects RX7 yX7_ticksTo yX7_ticksTo, .code yX7_ticksTo cX7_ticksTo 4 (some .int), .methodLink RL 103 yX7_count, .instanceMethod yX7_count, .selects RX7 yX7_count yX7_count, .code yX7_count cX7_count 2 (some .int), .methodLink RX7 209 yX7_freeUnits, .instanceMethod yX7_freeUnits, .code yX7_freeUnits cX7_freeUnits 3 (some .int), .methodLink RX7 212 yX7_worked, .instanceMethod yX7_worked, .code yX7_worked cX7_worked 3 (some .int), .methodLink RX7 215 yX7_freeShared, .instanceMethod yX7_freeShared, .code yX7_freeShared cX7_freeShared 3 (some .int)] : List Cond), w ∈ xw := xw_of _ [1003, 1004, 1005, 1006, 1008, 1009, 1010, 1012, 1013, 1014, 1016, 1017, 1018, 1019, 1020, 1021, 1022, 1023, 1024, 1025, 1026, 1027, 1029, 1030, 1031, 1033, 1034, 1035, 1037, 1038] (by decide +kernel) (by decide +kernel)
set_option maxRecDepth 20000 in
theorem xwc30 : ∀ w ∈ ([.methodLink RL 107 yX7_event, .instanceMethod yX7_event, .selects RX7 yX7_event yX7_event, .code yX7_event cX7_event 3 (some .int), .methodLink RL 112 yX7_undo, .instanceMethod yX7_undo, .selects RX7 yX7_undo yX7_undo, .code yX7_undo cX7_undo 1 (some .int), .methodLink RL 116 yX7_type, .instanceMethod yX7_type, .selects RX7 yX7_type yX7_type, .code yX7_type cX7_type 2 (some .int), .methodLink RL 120 yX7_clearText, .instanceMethod yX7_clearText, .selects RX7 yX7_clearText yX7_clearText, .code yX7_clearText cX7_clearText 2 (some .int), .methodLink RL 124 yX7_fault, .instanceMethod yX7_fault, .selects RX7 yX7_fault yX7_fault, .code yX7_fault cX7_fault 2 (some .int)] : List Cond), w ∈ xw := xw_of _ [1039, 1040, 1041, 1042, 1043, 1044, 1045, 1046, 1047, 1048, 1049, 1050, 1051, 1052, 1053, 1054, 1055, 1056, 1057, 1058] (by decide +kernel) (by decide +kernel)
/-- a field link of a class's code: own's entry idx names field k of class ci -/
def LkG (own : String) (idx ci k : Nat) : Prop := ∃ (C : String) (T : u_T) (N : Nat), vwCl[ci]? = some (C, T, N) ∧ k < N ∧ (∀ w ∈ u_ws C T N, w ∈ xw) ∧ Cond.fieldLink own idx (T k).1 (T k).2.1 (T k).2.2.1 ∈ xw
def LkP (own : String) (idx ci k : Nat) (ty : FieldType) (fin : Bool) : Prop := ∃ (C : String) (T : u_T) (N : Nat) (tys : Nat → FieldType), vwCl[ci]? = some (C, T, N) ∧ k < N ∧ (∀ w ∈ u_ws C T N, w ∈ xw) ∧ Cond.fieldLink own idx (T k).1 (T k).2.1 (T k).2.2.1 ∈ xw ∧
  (∀ k, k < N → parseFieldDescriptor (T k).2.2.1 = some (tys k)) ∧ (∀ a, a < N → ∀ b, b < N → a ≠ b → (T a).2.1 ≠ (T b).2.1) ∧ (T k).2.2.2 = fin ∧ parseFieldDescriptor (T k).2.2.1 = some ty ∧ (T k).1 = C
/-- a method link: virtual, static, a constructor -/
def LkV (own : String) (idx : Nat) (y : MethodName) (cc : ByteArray) (nL : Nat) (ret : Option FieldType) (ci n : Nat) : Prop := Cond.methodLink own idx y ∈ xw ∧ Cond.instanceMethod y ∈ xw ∧ Cond.selects y.cls y y ∈ xw ∧ Cond.initialized y.cls ∈ xw ∧ Cond.code y cc nL ret ∈ xw ∧ (y.cls ≠ "java/lang/invoke/MethodHandle" ∧ y.cls ≠ "java/lang/invoke/VarHandle" ∧ (parseMethodDescriptor y.desc).map (fun d => d.parameters.length) = some n) ∧ ∃ T N, vwCl[ci]? = some (y.cls, T, N)
def LkS (own : String) (idx : Nat) (y : MethodName) (cc : ByteArray) (nL : Nat) (ret : Option FieldType) (n : Nat) : Prop := Cond.methodLink own idx y ∈ xw ∧ Cond.static y ∈ xw ∧ Cond.initialized y.cls ∈ xw ∧ Cond.code y cc nL ret ∈ xw ∧ (y.cls ≠ "java/lang/invoke/MethodHandle" ∧ y.cls ≠ "java/lang/invoke/VarHandle" ∧ (parseMethodDescriptor y.desc).map (fun d => d.parameters.length) = some n)
def LkSN (y : MethodName) (cc : ByteArray) (nL : Nat) (ret : Option FieldType) (n : Nat) : Prop := Cond.static y ∈ xw ∧ Cond.initialized y.cls ∈ xw ∧ Cond.code y cc nL ret ∈ xw ∧ (y.cls ≠ "java/lang/invoke/MethodHandle" ∧ y.cls ≠ "java/lang/invoke/VarHandle" ∧ (parseMethodDescriptor y.desc).map (fun d => d.parameters.length) = some n)
/-- a constructor's words, its link apart -/
def LkI (y : MethodName) (cc : ByteArray) (nL n : Nat) : Prop := Cond.instanceMethod y ∈ xw ∧ Cond.initialized y.cls ∈ xw ∧ Cond.code y cc nL none ∈ xw ∧ (y.cls ≠ "java/lang/invoke/MethodHandle" ∧ y.cls ≠ "java/lang/invoke/VarHandle" ∧ (parseMethodDescriptor y.desc).map (fun d => d.parameters.length) = some n) ∧ y.name = "<init>"
/-- a class that 'new' makes -/
def LkN (own : String) (idx ci : Nat) : Prop := ∃ (C : String) (T : u_T) (N : Nat) (tys : Nat → FieldType), vwCl[ci]? = some (C, T, N) ∧ (∀ w ∈ u_ws C T N, w ∈ xw) ∧ (∀ k, k < N → parseFieldDescriptor (T k).2.2.1 = some (tys k)) ∧ Cond.classLink own idx C ∈ xw ∧ Cond.instantiable C N ∈ xw ∧ Cond.initialized C ∈ xw
set_option maxRecDepth 20000 in
theorem xlay0 : ∀ w ∈ u_ws RX0 TX0 10, w ∈ xw := xw_of _ [237, 239, 241, 243, 245, 247, 249, 251, 253, 255] (by decide +kernel) (by decide +kernel)
set_option maxRecDepth 20000 in
theorem xlay1 : ∀ w ∈ u_ws RX1 TX1 2, w ∈ xw := xw_of _ [93, 95] (by decide +kernel) (by decide +kernel)
set_option maxRecDepth 20000 in
theorem xlay2 : ∀ w ∈ u_ws RX2 TX2 5, w ∈ xw := xw_of _ [156, 158, 160, 162, 164] (by decide +kernel) (by decide +kernel)
set_option maxRecDepth 20000 in
theorem xlay3 : ∀ w ∈ u_ws RX3 TX3 12, w ∈ xw := xw_of _ [281, 283, 285, 287, 289, 291, 293, 295, 297, 299, 301, 303] (by decide +kernel) (by decide +kernel)
set_option maxRecDepth 20000 in
theorem xlay4 : ∀ w ∈ u_ws RX4 TX4 7, w ∈ xw := xw_of _ [118, 120, 122, 124, 126, 128, 130] (by decide +kernel) (by decide +kernel)
set_option maxRecDepth 20000 in
theorem xlay5 : ∀ w ∈ u_ws RX5 TX5 6, w ∈ xw := xw_of _ [190, 192, 194, 196, 198, 200] (by decide +kernel) (by decide +kernel)
set_option maxRecDepth 20000 in
theorem xlay6 : ∀ w ∈ u_ws RX6 TX6 6, w ∈ xw := xw_of _ [313, 315, 317, 319, 321, 323] (by decide +kernel) (by decide +kernel)
set_option maxRecDepth 20000 in
theorem xlay7 : ∀ w ∈ u_ws RX7 TX7 11, w ∈ xw := xw_of _ [723, 725, 727, 729, 731, 733, 735, 737, 739, 741, 743] (by decide +kernel) (by decide +kernel)
theorem fgX1_9 : LkG RX1 9 1 0 := ⟨RX1, TX1, 2, rfl, by decide, xlay1, (xwc2 _ (List.mem_of_getElem? (i := 27) rfl))⟩
theorem fpX1_9 : LkP RX1 9 1 0 (.array .int) true := ⟨RX1, TX1, 2, tyX1, rfl, by decide, xlay1, (xwc2 _ (List.mem_of_getElem? (i := 27) rfl)), tyX1_ok, nmX1, rfl, by decide +kernel, rfl⟩
theorem fgX6_125 : LkG RX6 125 1 0 := ⟨RX1, TX1, 2, rfl, by decide, xlay1, (xwc2 _ (List.mem_of_getElem? (i := 28) rfl))⟩
theorem fpX6_125 : LkP RX6 125 1 0 (.array .int) true := ⟨RX1, TX1, 2, tyX1, rfl, by decide, xlay1, (xwc2 _ (List.mem_of_getElem? (i := 28) rfl)), tyX1_ok, nmX1, rfl, by decide +kernel, rfl⟩
theorem fgX3_206 : LkG RX3 206 1 0 := ⟨RX1, TX1, 2, rfl, by decide, xlay1, (xwc2 _ (List.mem_of_getElem? (i := 29) rfl))⟩
theorem fpX3_206 : LkP RX3 206 1 0 (.array .int) true := ⟨RX1, TX1, 2, tyX1, rfl, by decide, xlay1, (xwc2 _ (List.mem_of_getElem? (i := 29) rfl)), tyX1_ok, nmX1, rfl, by decide +kernel, rfl⟩
theorem fgX1_17 : LkG RX1 17 1 1 := ⟨RX1, TX1, 2, rfl, by decide, xlay1, (xwc3 _ (List.mem_of_getElem? (i := 0) rfl))⟩
theorem fpX1_17 : LkP RX1 17 1 1 (.array (.array .int)) true := ⟨RX1, TX1, 2, tyX1, rfl, by decide, xlay1, (xwc3 _ (List.mem_of_getElem? (i := 0) rfl)), tyX1_ok, nmX1, rfl, by decide +kernel, rfl⟩
theorem fgX4_9 : LkG RX4 9 4 0 := ⟨RX4, TX4, 7, rfl, by decide, xlay4, (xwc3 _ (List.mem_of_getElem? (i := 10) rfl))⟩
theorem fpX4_9 : LkP RX4 9 4 0 (.array .char) true := ⟨RX4, TX4, 7, tyX4, rfl, by decide, xlay4, (xwc3 _ (List.mem_of_getElem? (i := 10) rfl)), tyX4_ok, nmX4, rfl, by decide +kernel, rfl⟩
theorem fgX4_17 : LkG RX4 17 4 1 := ⟨RX4, TX4, 7, rfl, by decide, xlay4, (xwc3 _ (List.mem_of_getElem? (i := 11) rfl))⟩
theorem fpX4_17 : LkP RX4 17 4 1 (.array (.array .int)) true := ⟨RX4, TX4, 7, tyX4, rfl, by decide, xlay4, (xwc3 _ (List.mem_of_getElem? (i := 11) rfl)), tyX4_ok, nmX4, rfl, by decide +kernel, rfl⟩
theorem fgX1_26 : LkG RX1 26 4 1 := ⟨RX4, TX4, 7, rfl, by decide, xlay4, (xwc3 _ (List.mem_of_getElem? (i := 12) rfl))⟩
theorem fpX1_26 : LkP RX1 26 4 1 (.array (.array .int)) true := ⟨RX4, TX4, 7, tyX4, rfl, by decide, xlay4, (xwc3 _ (List.mem_of_getElem? (i := 12) rfl)), tyX4_ok, nmX4, rfl, by decide +kernel, rfl⟩
theorem fgX4_20 : LkG RX4 20 4 2 := ⟨RX4, TX4, 7, rfl, by decide, xlay4, (xwc3 _ (List.mem_of_getElem? (i := 13) rfl))⟩
theorem fpX4_20 : LkP RX4 20 4 2 .int false := ⟨RX4, TX4, 7, tyX4, rfl, by decide, xlay4, (xwc3 _ (List.mem_of_getElem? (i := 13) rfl)), tyX4_ok, nmX4, rfl, by decide +kernel, rfl⟩
theorem fgX6_256 : LkG RX6 256 4 2 := ⟨RX4, TX4, 7, rfl, by decide, xlay4, (xwc3 _ (List.mem_of_getElem? (i := 14) rfl))⟩
theorem fpX6_256 : LkP RX6 256 4 2 .int false := ⟨RX4, TX4, 7, tyX4, rfl, by decide, xlay4, (xwc3 _ (List.mem_of_getElem? (i := 14) rfl)), tyX4_ok, nmX4, rfl, by decide +kernel, rfl⟩
theorem fgX1_20 : LkG RX1 20 4 3 := ⟨RX4, TX4, 7, rfl, by decide, xlay4, (xwc3 _ (List.mem_of_getElem? (i := 15) rfl))⟩
theorem fpX1_20 : LkP RX1 20 4 3 .int false := ⟨RX4, TX4, 7, tyX4, rfl, by decide, xlay4, (xwc3 _ (List.mem_of_getElem? (i := 15) rfl)), tyX4_ok, nmX4, rfl, by decide +kernel, rfl⟩
theorem fgX4_33 : LkG RX4 33 4 3 := ⟨RX4, TX4, 7, rfl, by decide, xlay4, (xwc3 _ (List.mem_of_getElem? (i := 16) rfl))⟩
theorem fpX4_33 : LkP RX4 33 4 3 .int false := ⟨RX4, TX4, 7, tyX4, rfl, by decide, xlay4, (xwc3 _ (List.mem_of_getElem? (i := 16) rfl)), tyX4_ok, nmX4, rfl, by decide +kernel, rfl⟩
theorem fgX4_30 : LkG RX4 30 4 4 := ⟨RX4, TX4, 7, rfl, by decide, xlay4, (xwc3 _ (List.mem_of_getElem? (i := 17) rfl))⟩
theorem fpX4_30 : LkP RX4 30 4 4 .int false := ⟨RX4, TX4, 7, tyX4, rfl, by decide, xlay4, (xwc3 _ (List.mem_of_getElem? (i := 17) rfl)), tyX4_ok, nmX4, rfl, by decide +kernel, rfl⟩
theorem fgX6_112 : LkG RX6 112 4 4 := ⟨RX4, TX4, 7, rfl, by decide, xlay4, (xwc3 _ (List.mem_of_getElem? (i := 18) rfl))⟩
theorem fpX6_112 : LkP RX6 112 4 4 .int false := ⟨RX4, TX4, 7, tyX4, rfl, by decide, xlay4, (xwc3 _ (List.mem_of_getElem? (i := 18) rfl)), tyX4_ok, nmX4, rfl, by decide +kernel, rfl⟩
theorem fgX4_27 : LkG RX4 27 4 5 := ⟨RX4, TX4, 7, rfl, by decide, xlay4, (xwc3 _ (List.mem_of_getElem? (i := 19) rfl))⟩
theorem fpX4_27 : LkP RX4 27 4 5 .int false := ⟨RX4, TX4, 7, tyX4, rfl, by decide, xlay4, (xwc3 _ (List.mem_of_getElem? (i := 19) rfl)), tyX4_ok, nmX4, rfl, by decide +kernel, rfl⟩
theorem fgX6_269 : LkG RX6 269 4 5 := ⟨RX4, TX4, 7, rfl, by decide, xlay4, (xwc3 _ (List.mem_of_getElem? (i := 20) rfl))⟩
theorem fpX6_269 : LkP RX6 269 4 5 .int false := ⟨RX4, TX4, 7, tyX4, rfl, by decide, xlay4, (xwc3 _ (List.mem_of_getElem? (i := 20) rfl)), tyX4_ok, nmX4, rfl, by decide +kernel, rfl⟩
theorem fgX4_24 : LkG RX4 24 4 6 := ⟨RX4, TX4, 7, rfl, by decide, xlay4, (xwc3 _ (List.mem_of_getElem? (i := 21) rfl))⟩
theorem fpX4_24 : LkP RX4 24 4 6 .int false := ⟨RX4, TX4, 7, tyX4, rfl, by decide, xlay4, (xwc3 _ (List.mem_of_getElem? (i := 21) rfl)), tyX4_ok, nmX4, rfl, by decide +kernel, rfl⟩
theorem fgX2_9 : LkG RX2 9 2 0 := ⟨RX2, TX2, 5, rfl, by decide, xlay2, (xwc4 _ (List.mem_of_getElem? (i := 13) rfl))⟩
theorem fpX2_9 : LkP RX2 9 2 0 (.array .int) true := ⟨RX2, TX2, 5, tyX2, rfl, by decide, xlay2, (xwc4 _ (List.mem_of_getElem? (i := 13) rfl)), tyX2_ok, nmX2, rfl, by decide +kernel, rfl⟩
theorem fgX2_15 : LkG RX2 15 2 1 := ⟨RX2, TX2, 5, rfl, by decide, xlay2, (xwc4 _ (List.mem_of_getElem? (i := 14) rfl))⟩
theorem fpX2_15 : LkP RX2 15 2 1 (.array .int) true := ⟨RX2, TX2, 5, tyX2, rfl, by decide, xlay2, (xwc4 _ (List.mem_of_getElem? (i := 14) rfl)), tyX2_ok, nmX2, rfl, by decide +kernel, rfl⟩
theorem fgX2_18 : LkG RX2 18 2 2 := ⟨RX2, TX2, 5, rfl, by decide, xlay2, (xwc4 _ (List.mem_of_getElem? (i := 15) rfl))⟩
theorem fpX2_18 : LkP RX2 18 2 2 (.array .int) true := ⟨RX2, TX2, 5, tyX2, rfl, by decide, xlay2, (xwc4 _ (List.mem_of_getElem? (i := 15) rfl)), tyX2_ok, nmX2, rfl, by decide +kernel, rfl⟩
theorem fgX2_25 : LkG RX2 25 2 3 := ⟨RX2, TX2, 5, rfl, by decide, xlay2, (xwc4 _ (List.mem_of_getElem? (i := 16) rfl))⟩
theorem fpX2_25 : LkP RX2 25 2 3 .int false := ⟨RX2, TX2, 5, tyX2, rfl, by decide, xlay2, (xwc4 _ (List.mem_of_getElem? (i := 16) rfl)), tyX2_ok, nmX2, rfl, by decide +kernel, rfl⟩
theorem fgX6_248 : LkG RX6 248 2 3 := ⟨RX2, TX2, 5, rfl, by decide, xlay2, (xwc4 _ (List.mem_of_getElem? (i := 17) rfl))⟩
theorem fpX6_248 : LkP RX6 248 2 3 .int false := ⟨RX2, TX2, 5, tyX2, rfl, by decide, xlay2, (xwc4 _ (List.mem_of_getElem? (i := 17) rfl)), tyX2_ok, nmX2, rfl, by decide +kernel, rfl⟩
theorem fgX2_21 : LkG RX2 21 2 4 := ⟨RX2, TX2, 5, rfl, by decide, xlay2, (xwc4 _ (List.mem_of_getElem? (i := 18) rfl))⟩
theorem fpX2_21 : LkP RX2 21 2 4 .int false := ⟨RX2, TX2, 5, tyX2, rfl, by decide, xlay2, (xwc4 _ (List.mem_of_getElem? (i := 18) rfl)), tyX2_ok, nmX2, rfl, by decide +kernel, rfl⟩
theorem fgX5_9 : LkG RX5 9 5 0 := ⟨RX5, TX5, 6, rfl, by decide, xlay5, (xwc4 _ (List.mem_of_getElem? (i := 28) rfl))⟩
theorem fpX5_9 : LkP RX5 9 5 0 .int false := ⟨RX5, TX5, 6, tyX5, rfl, by decide, xlay5, (xwc4 _ (List.mem_of_getElem? (i := 28) rfl)), tyX5_ok, nmX5, rfl, by decide +kernel, rfl⟩
theorem fgX6_79 : LkG RX6 79 5 0 := ⟨RX5, TX5, 6, rfl, by decide, xlay5, (xwc4 _ (List.mem_of_getElem? (i := 29) rfl))⟩
theorem fpX6_79 : LkP RX6 79 5 0 .int false := ⟨RX5, TX5, 6, tyX5, rfl, by decide, xlay5, (xwc4 _ (List.mem_of_getElem? (i := 29) rfl)), tyX5_ok, nmX5, rfl, by decide +kernel, rfl⟩
theorem fgX3_105 : LkG RX3 105 5 0 := ⟨RX5, TX5, 6, rfl, by decide, xlay5, (xwc5 _ (List.mem_of_getElem? (i := 0) rfl))⟩
theorem fpX3_105 : LkP RX3 105 5 0 .int false := ⟨RX5, TX5, 6, tyX5, rfl, by decide, xlay5, (xwc5 _ (List.mem_of_getElem? (i := 0) rfl)), tyX5_ok, nmX5, rfl, by decide +kernel, rfl⟩
theorem fgX5_15 : LkG RX5 15 5 1 := ⟨RX5, TX5, 6, rfl, by decide, xlay5, (xwc5 _ (List.mem_of_getElem? (i := 1) rfl))⟩
theorem fpX5_15 : LkP RX5 15 5 1 .int false := ⟨RX5, TX5, 6, tyX5, rfl, by decide, xlay5, (xwc5 _ (List.mem_of_getElem? (i := 1) rfl)), tyX5_ok, nmX5, rfl, by decide +kernel, rfl⟩
theorem fgX6_82 : LkG RX6 82 5 1 := ⟨RX5, TX5, 6, rfl, by decide, xlay5, (xwc5 _ (List.mem_of_getElem? (i := 2) rfl))⟩
theorem fpX6_82 : LkP RX6 82 5 1 .int false := ⟨RX5, TX5, 6, tyX5, rfl, by decide, xlay5, (xwc5 _ (List.mem_of_getElem? (i := 2) rfl)), tyX5_ok, nmX5, rfl, by decide +kernel, rfl⟩
theorem fgX3_108 : LkG RX3 108 5 1 := ⟨RX5, TX5, 6, rfl, by decide, xlay5, (xwc5 _ (List.mem_of_getElem? (i := 3) rfl))⟩
theorem fpX3_108 : LkP RX3 108 5 1 .int false := ⟨RX5, TX5, 6, tyX5, rfl, by decide, xlay5, (xwc5 _ (List.mem_of_getElem? (i := 3) rfl)), tyX5_ok, nmX5, rfl, by decide +kernel, rfl⟩
theorem fgX5_18 : LkG RX5 18 5 2 := ⟨RX5, TX5, 6, rfl, by decide, xlay5, (xwc5 _ (List.mem_of_getElem? (i := 4) rfl))⟩
theorem fpX5_18 : LkP RX5 18 5 2 .int false := ⟨RX5, TX5, 6, tyX5, rfl, by decide, xlay5, (xwc5 _ (List.mem_of_getElem? (i := 4) rfl)), tyX5_ok, nmX5, rfl, by decide +kernel, rfl⟩
theorem fgX3_83 : LkG RX3 83 5 2 := ⟨RX5, TX5, 6, rfl, by decide, xlay5, (xwc5 _ (List.mem_of_getElem? (i := 5) rfl))⟩
theorem fpX3_83 : LkP RX3 83 5 2 .int false := ⟨RX5, TX5, 6, tyX5, rfl, by decide, xlay5, (xwc5 _ (List.mem_of_getElem? (i := 5) rfl)), tyX5_ok, nmX5, rfl, by decide +kernel, rfl⟩
theorem fgX6_85 : LkG RX6 85 5 2 := ⟨RX5, TX5, 6, rfl, by decide, xlay5, (xwc5 _ (List.mem_of_getElem? (i := 6) rfl))⟩
theorem fpX6_85 : LkP RX6 85 5 2 .int false := ⟨RX5, TX5, 6, tyX5, rfl, by decide, xlay5, (xwc5 _ (List.mem_of_getElem? (i := 6) rfl)), tyX5_ok, nmX5, rfl, by decide +kernel, rfl⟩
theorem fgX5_21 : LkG RX5 21 5 3 := ⟨RX5, TX5, 6, rfl, by decide, xlay5, (xwc5 _ (List.mem_of_getElem? (i := 7) rfl))⟩
theorem fpX5_21 : LkP RX5 21 5 3 .int false := ⟨RX5, TX5, 6, tyX5, rfl, by decide, xlay5, (xwc5 _ (List.mem_of_getElem? (i := 7) rfl)), tyX5_ok, nmX5, rfl, by decide +kernel, rfl⟩
theorem fgX6_92 : LkG RX6 92 5 3 := ⟨RX5, TX5, 6, rfl, by decide, xlay5, (xwc5 _ (List.mem_of_getElem? (i := 8) rfl))⟩
theorem fpX6_92 : LkP RX6 92 5 3 .int false := ⟨RX5, TX5, 6, tyX5, rfl, by decide, xlay5, (xwc5 _ (List.mem_of_getElem? (i := 8) rfl)), tyX5_ok, nmX5, rfl, by decide +kernel, rfl⟩
theorem fgX3_117 : LkG RX3 117 5 3 := ⟨RX5, TX5, 6, rfl, by decide, xlay5, (xwc5 _ (List.mem_of_getElem? (i := 9) rfl))⟩
theorem fpX3_117 : LkP RX3 117 5 3 .int false := ⟨RX5, TX5, 6, tyX5, rfl, by decide, xlay5, (xwc5 _ (List.mem_of_getElem? (i := 9) rfl)), tyX5_ok, nmX5, rfl, by decide +kernel, rfl⟩
theorem fgX5_24 : LkG RX5 24 5 4 := ⟨RX5, TX5, 6, rfl, by decide, xlay5, (xwc5 _ (List.mem_of_getElem? (i := 10) rfl))⟩
theorem fpX5_24 : LkP RX5 24 5 4 .int false := ⟨RX5, TX5, 6, tyX5, rfl, by decide, xlay5, (xwc5 _ (List.mem_of_getElem? (i := 10) rfl)), tyX5_ok, nmX5, rfl, by decide +kernel, rfl⟩
theorem fgX6_95 : LkG RX6 95 5 4 := ⟨RX5, TX5, 6, rfl, by decide, xlay5, (xwc5 _ (List.mem_of_getElem? (i := 11) rfl))⟩
theorem fpX6_95 : LkP RX6 95 5 4 .int false := ⟨RX5, TX5, 6, tyX5, rfl, by decide, xlay5, (xwc5 _ (List.mem_of_getElem? (i := 11) rfl)), tyX5_ok, nmX5, rfl, by decide +kernel, rfl⟩
theorem fgX3_98 : LkG RX3 98 5 4 := ⟨RX5, TX5, 6, rfl, by decide, xlay5, (xwc5 _ (List.mem_of_getElem? (i := 12) rfl))⟩
theorem fpX3_98 : LkP RX3 98 5 4 .int false := ⟨RX5, TX5, 6, tyX5, rfl, by decide, xlay5, (xwc5 _ (List.mem_of_getElem? (i := 12) rfl)), tyX5_ok, nmX5, rfl, by decide +kernel, rfl⟩
theorem fgX5_27 : LkG RX5 27 5 5 := ⟨RX5, TX5, 6, rfl, by decide, xlay5, (xwc5 _ (List.mem_of_getElem? (i := 13) rfl))⟩
theorem fpX5_27 : LkP RX5 27 5 5 .boolean false := ⟨RX5, TX5, 6, tyX5, rfl, by decide, xlay5, (xwc5 _ (List.mem_of_getElem? (i := 13) rfl)), tyX5_ok, nmX5, rfl, by decide +kernel, rfl⟩
theorem fgX6_62 : LkG RX6 62 5 5 := ⟨RX5, TX5, 6, rfl, by decide, xlay5, (xwc5 _ (List.mem_of_getElem? (i := 14) rfl))⟩
theorem fpX6_62 : LkP RX6 62 5 5 .boolean false := ⟨RX5, TX5, 6, tyX5, rfl, by decide, xlay5, (xwc5 _ (List.mem_of_getElem? (i := 14) rfl)), tyX5_ok, nmX5, rfl, by decide +kernel, rfl⟩
theorem fgX3_79 : LkG RX3 79 5 5 := ⟨RX5, TX5, 6, rfl, by decide, xlay5, (xwc5 _ (List.mem_of_getElem? (i := 15) rfl))⟩
theorem fpX3_79 : LkP RX3 79 5 5 .boolean false := ⟨RX5, TX5, 6, tyX5, rfl, by decide, xlay5, (xwc5 _ (List.mem_of_getElem? (i := 15) rfl)), tyX5_ok, nmX5, rfl, by decide +kernel, rfl⟩
theorem fgX0_9 : LkG RX0 9 0 0 := ⟨RX0, TX0, 10, rfl, by decide, xlay0, (xwc5 _ (List.mem_of_getElem? (i := 26) rfl))⟩
theorem fpX0_9 : LkP RX0 9 0 0 .int false := ⟨RX0, TX0, 10, tyX0, rfl, by decide, xlay0, (xwc5 _ (List.mem_of_getElem? (i := 26) rfl)), tyX0_ok, nmX0, rfl, by decide +kernel, rfl⟩
theorem fgX3_127 : LkG RX3 127 0 0 := ⟨RX0, TX0, 10, rfl, by decide, xlay0, (xwc5 _ (List.mem_of_getElem? (i := 27) rfl))⟩
theorem fpX3_127 : LkP RX3 127 0 0 .int false := ⟨RX0, TX0, 10, tyX0, rfl, by decide, xlay0, (xwc5 _ (List.mem_of_getElem? (i := 27) rfl)), tyX0_ok, nmX0, rfl, by decide +kernel, rfl⟩
theorem fgX6_189 : LkG RX6 189 0 0 := ⟨RX0, TX0, 10, rfl, by decide, xlay0, (xwc5 _ (List.mem_of_getElem? (i := 28) rfl))⟩
theorem fpX6_189 : LkP RX6 189 0 0 .int false := ⟨RX0, TX0, 10, tyX0, rfl, by decide, xlay0, (xwc5 _ (List.mem_of_getElem? (i := 28) rfl)), tyX0_ok, nmX0, rfl, by decide +kernel, rfl⟩
theorem fgX0_15 : LkG RX0 15 0 1 := ⟨RX0, TX0, 10, rfl, by decide, xlay0, (xwc5 _ (List.mem_of_getElem? (i := 29) rfl))⟩
theorem fpX0_15 : LkP RX0 15 0 1 .int false := ⟨RX0, TX0, 10, tyX0, rfl, by decide, xlay0, (xwc5 _ (List.mem_of_getElem? (i := 29) rfl)), tyX0_ok, nmX0, rfl, by decide +kernel, rfl⟩
theorem fgX3_130 : LkG RX3 130 0 1 := ⟨RX0, TX0, 10, rfl, by decide, xlay0, (xwc6 _ (List.mem_of_getElem? (i := 0) rfl))⟩
theorem fpX3_130 : LkP RX3 130 0 1 .int false := ⟨RX0, TX0, 10, tyX0, rfl, by decide, xlay0, (xwc6 _ (List.mem_of_getElem? (i := 0) rfl)), tyX0_ok, nmX0, rfl, by decide +kernel, rfl⟩
theorem fgX6_192 : LkG RX6 192 0 1 := ⟨RX0, TX0, 10, rfl, by decide, xlay0, (xwc6 _ (List.mem_of_getElem? (i := 1) rfl))⟩
theorem fpX6_192 : LkP RX6 192 0 1 .int false := ⟨RX0, TX0, 10, tyX0, rfl, by decide, xlay0, (xwc6 _ (List.mem_of_getElem? (i := 1) rfl)), tyX0_ok, nmX0, rfl, by decide +kernel, rfl⟩
theorem fgX0_18 : LkG RX0 18 0 2 := ⟨RX0, TX0, 10, rfl, by decide, xlay0, (xwc6 _ (List.mem_of_getElem? (i := 2) rfl))⟩
theorem fpX0_18 : LkP RX0 18 0 2 .int false := ⟨RX0, TX0, 10, tyX0, rfl, by decide, xlay0, (xwc6 _ (List.mem_of_getElem? (i := 2) rfl)), tyX0_ok, nmX0, rfl, by decide +kernel, rfl⟩
theorem fgX3_111 : LkG RX3 111 0 2 := ⟨RX0, TX0, 10, rfl, by decide, xlay0, (xwc6 _ (List.mem_of_getElem? (i := 3) rfl))⟩
theorem fpX3_111 : LkP RX3 111 0 2 .int false := ⟨RX0, TX0, 10, tyX0, rfl, by decide, xlay0, (xwc6 _ (List.mem_of_getElem? (i := 3) rfl)), tyX0_ok, nmX0, rfl, by decide +kernel, rfl⟩
theorem fgX6_195 : LkG RX6 195 0 2 := ⟨RX0, TX0, 10, rfl, by decide, xlay0, (xwc6 _ (List.mem_of_getElem? (i := 4) rfl))⟩
theorem fpX6_195 : LkP RX6 195 0 2 .int false := ⟨RX0, TX0, 10, tyX0, rfl, by decide, xlay0, (xwc6 _ (List.mem_of_getElem? (i := 4) rfl)), tyX0_ok, nmX0, rfl, by decide +kernel, rfl⟩
theorem fgX0_21 : LkG RX0 21 0 3 := ⟨RX0, TX0, 10, rfl, by decide, xlay0, (xwc6 _ (List.mem_of_getElem? (i := 5) rfl))⟩
theorem fpX0_21 : LkP RX0 21 0 3 .int false := ⟨RX0, TX0, 10, tyX0, rfl, by decide, xlay0, (xwc6 _ (List.mem_of_getElem? (i := 5) rfl)), tyX0_ok, nmX0, rfl, by decide +kernel, rfl⟩
theorem fgX6_186 : LkG RX6 186 0 3 := ⟨RX0, TX0, 10, rfl, by decide, xlay0, (xwc6 _ (List.mem_of_getElem? (i := 6) rfl))⟩
theorem fpX6_186 : LkP RX6 186 0 3 .int false := ⟨RX0, TX0, 10, tyX0, rfl, by decide, xlay0, (xwc6 _ (List.mem_of_getElem? (i := 6) rfl)), tyX0_ok, nmX0, rfl, by decide +kernel, rfl⟩
theorem fgX3_174 : LkG RX3 174 0 3 := ⟨RX0, TX0, 10, rfl, by decide, xlay0, (xwc6 _ (List.mem_of_getElem? (i := 7) rfl))⟩
theorem fpX3_174 : LkP RX3 174 0 3 .int false := ⟨RX0, TX0, 10, tyX0, rfl, by decide, xlay0, (xwc6 _ (List.mem_of_getElem? (i := 7) rfl)), tyX0_ok, nmX0, rfl, by decide +kernel, rfl⟩
theorem fgX0_24 : LkG RX0 24 0 4 := ⟨RX0, TX0, 10, rfl, by decide, xlay0, (xwc6 _ (List.mem_of_getElem? (i := 8) rfl))⟩
theorem fpX0_24 : LkP RX0 24 0 4 .int false := ⟨RX0, TX0, 10, tyX0, rfl, by decide, xlay0, (xwc6 _ (List.mem_of_getElem? (i := 8) rfl)), tyX0_ok, nmX0, rfl, by decide +kernel, rfl⟩
theorem fgX6_198 : LkG RX6 198 0 4 := ⟨RX0, TX0, 10, rfl, by decide, xlay0, (xwc6 _ (List.mem_of_getElem? (i := 9) rfl))⟩
theorem fpX6_198 : LkP RX6 198 0 4 .int false := ⟨RX0, TX0, 10, tyX0, rfl, by decide, xlay0, (xwc6 _ (List.mem_of_getElem? (i := 9) rfl)), tyX0_ok, nmX0, rfl, by decide +kernel, rfl⟩
theorem fgX3_159 : LkG RX3 159 0 4 := ⟨RX0, TX0, 10, rfl, by decide, xlay0, (xwc6 _ (List.mem_of_getElem? (i := 10) rfl))⟩
theorem fpX3_159 : LkP RX3 159 0 4 .int false := ⟨RX0, TX0, 10, tyX0, rfl, by decide, xlay0, (xwc6 _ (List.mem_of_getElem? (i := 10) rfl)), tyX0_ok, nmX0, rfl, by decide +kernel, rfl⟩
theorem fgX0_27 : LkG RX0 27 0 5 := ⟨RX0, TX0, 10, rfl, by decide, xlay0, (xwc6 _ (List.mem_of_getElem? (i := 11) rfl))⟩
theorem fpX0_27 : LkP RX0 27 0 5 .int false := ⟨RX0, TX0, 10, tyX0, rfl, by decide, xlay0, (xwc6 _ (List.mem_of_getElem? (i := 11) rfl)), tyX0_ok, nmX0, rfl, by decide +kernel, rfl⟩
theorem fgX6_152 : LkG RX6 152 0 5 := ⟨RX0, TX0, 10, rfl, by decide, xlay0, (xwc6 _ (List.mem_of_getElem? (i := 12) rfl))⟩
theorem fpX6_152 : LkP RX6 152 0 5 .int false := ⟨RX0, TX0, 10, tyX0, rfl, by decide, xlay0, (xwc6 _ (List.mem_of_getElem? (i := 12) rfl)), tyX0_ok, nmX0, rfl, by decide +kernel, rfl⟩
theorem fgX3_121 : LkG RX3 121 0 5 := ⟨RX0, TX0, 10, rfl, by decide, xlay0, (xwc6 _ (List.mem_of_getElem? (i := 13) rfl))⟩
theorem fpX3_121 : LkP RX3 121 0 5 .int false := ⟨RX0, TX0, 10, tyX0, rfl, by decide, xlay0, (xwc6 _ (List.mem_of_getElem? (i := 13) rfl)), tyX0_ok, nmX0, rfl, by decide +kernel, rfl⟩
theorem fgX0_30 : LkG RX0 30 0 6 := ⟨RX0, TX0, 10, rfl, by decide, xlay0, (xwc6 _ (List.mem_of_getElem? (i := 14) rfl))⟩
theorem fpX0_30 : LkP RX0 30 0 6 .int false := ⟨RX0, TX0, 10, tyX0, rfl, by decide, xlay0, (xwc6 _ (List.mem_of_getElem? (i := 14) rfl)), tyX0_ok, nmX0, rfl, by decide +kernel, rfl⟩
theorem fgX3_139 : LkG RX3 139 0 6 := ⟨RX0, TX0, 10, rfl, by decide, xlay0, (xwc6 _ (List.mem_of_getElem? (i := 15) rfl))⟩
theorem fpX3_139 : LkP RX3 139 0 6 .int false := ⟨RX0, TX0, 10, tyX0, rfl, by decide, xlay0, (xwc6 _ (List.mem_of_getElem? (i := 15) rfl)), tyX0_ok, nmX0, rfl, by decide +kernel, rfl⟩
theorem fgX6_201 : LkG RX6 201 0 6 := ⟨RX0, TX0, 10, rfl, by decide, xlay0, (xwc6 _ (List.mem_of_getElem? (i := 16) rfl))⟩
theorem fpX6_201 : LkP RX6 201 0 6 .int false := ⟨RX0, TX0, 10, tyX0, rfl, by decide, xlay0, (xwc6 _ (List.mem_of_getElem? (i := 16) rfl)), tyX0_ok, nmX0, rfl, by decide +kernel, rfl⟩
theorem fgX0_33 : LkG RX0 33 0 7 := ⟨RX0, TX0, 10, rfl, by decide, xlay0, (xwc6 _ (List.mem_of_getElem? (i := 17) rfl))⟩
theorem fpX0_33 : LkP RX0 33 0 7 .int false := ⟨RX0, TX0, 10, tyX0, rfl, by decide, xlay0, (xwc6 _ (List.mem_of_getElem? (i := 17) rfl)), tyX0_ok, nmX0, rfl, by decide +kernel, rfl⟩
theorem fgX3_124 : LkG RX3 124 0 7 := ⟨RX0, TX0, 10, rfl, by decide, xlay0, (xwc6 _ (List.mem_of_getElem? (i := 18) rfl))⟩
theorem fpX3_124 : LkP RX3 124 0 7 .int false := ⟨RX0, TX0, 10, tyX0, rfl, by decide, xlay0, (xwc6 _ (List.mem_of_getElem? (i := 18) rfl)), tyX0_ok, nmX0, rfl, by decide +kernel, rfl⟩
theorem fgX0_36 : LkG RX0 36 0 8 := ⟨RX0, TX0, 10, rfl, by decide, xlay0, (xwc6 _ (List.mem_of_getElem? (i := 19) rfl))⟩
theorem fpX0_36 : LkP RX0 36 0 8 .int false := ⟨RX0, TX0, 10, tyX0, rfl, by decide, xlay0, (xwc6 _ (List.mem_of_getElem? (i := 19) rfl)), tyX0_ok, nmX0, rfl, by decide +kernel, rfl⟩
theorem fgX3_114 : LkG RX3 114 0 8 := ⟨RX0, TX0, 10, rfl, by decide, xlay0, (xwc6 _ (List.mem_of_getElem? (i := 20) rfl))⟩
theorem fpX3_114 : LkP RX3 114 0 8 .int false := ⟨RX0, TX0, 10, tyX0, rfl, by decide, xlay0, (xwc6 _ (List.mem_of_getElem? (i := 20) rfl)), tyX0_ok, nmX0, rfl, by decide +kernel, rfl⟩
theorem fgX6_204 : LkG RX6 204 0 8 := ⟨RX0, TX0, 10, rfl, by decide, xlay0, (xwc6 _ (List.mem_of_getElem? (i := 21) rfl))⟩
theorem fpX6_204 : LkP RX6 204 0 8 .int false := ⟨RX0, TX0, 10, tyX0, rfl, by decide, xlay0, (xwc6 _ (List.mem_of_getElem? (i := 21) rfl)), tyX0_ok, nmX0, rfl, by decide +kernel, rfl⟩
theorem fgX0_39 : LkG RX0 39 0 9 := ⟨RX0, TX0, 10, rfl, by decide, xlay0, (xwc6 _ (List.mem_of_getElem? (i := 22) rfl))⟩
theorem fpX0_39 : LkP RX0 39 0 9 .float false := ⟨RX0, TX0, 10, tyX0, rfl, by decide, xlay0, (xwc6 _ (List.mem_of_getElem? (i := 22) rfl)), tyX0_ok, nmX0, rfl, by decide +kernel, rfl⟩
theorem fgX6_210 : LkG RX6 210 0 9 := ⟨RX0, TX0, 10, rfl, by decide, xlay0, (xwc6 _ (List.mem_of_getElem? (i := 23) rfl))⟩
theorem fpX6_210 : LkP RX6 210 0 9 .float false := ⟨RX0, TX0, 10, tyX0, rfl, by decide, xlay0, (xwc6 _ (List.mem_of_getElem? (i := 23) rfl)), tyX0_ok, nmX0, rfl, by decide +kernel, rfl⟩
theorem fgX3_201 : LkG RX3 201 0 9 := ⟨RX0, TX0, 10, rfl, by decide, xlay0, (xwc6 _ (List.mem_of_getElem? (i := 24) rfl))⟩
theorem fpX3_201 : LkP RX3 201 0 9 .float false := ⟨RX0, TX0, 10, tyX0, rfl, by decide, xlay0, (xwc6 _ (List.mem_of_getElem? (i := 24) rfl)), tyX0_ok, nmX0, rfl, by decide +kernel, rfl⟩
theorem fgX3_44 : LkG RX3 44 3 0 := ⟨RX3, TX3, 12, rfl, by decide, xlay3, (xwc7 _ (List.mem_of_getElem? (i := 5) rfl))⟩
theorem fpX3_44 : LkP RX3 44 3 0 (.object "BatchExecutive$Book") true := ⟨RX3, TX3, 12, tyX3, rfl, by decide, xlay3, (xwc7 _ (List.mem_of_getElem? (i := 5) rfl)), tyX3_ok, nmX3, rfl, by decide +kernel, rfl⟩
theorem fgX3_11 : LkG RX3 11 3 1 := ⟨RX3, TX3, 12, rfl, by decide, xlay3, (xwc7 _ (List.mem_of_getElem? (i := 6) rfl))⟩
theorem fpX3_11 : LkP RX3 11 3 1 (.array (.object "BatchExecutive$Unit")) true := ⟨RX3, TX3, 12, tyX3, rfl, by decide, xlay3, (xwc7 _ (List.mem_of_getElem? (i := 6) rfl)), tyX3_ok, nmX3, rfl, by decide +kernel, rfl⟩
theorem fgX6_58 : LkG RX6 58 3 1 := ⟨RX3, TX3, 12, rfl, by decide, xlay3, (xwc7 _ (List.mem_of_getElem? (i := 7) rfl))⟩
theorem fpX6_58 : LkP RX6 58 3 1 (.array (.object "BatchExecutive$Unit")) true := ⟨RX3, TX3, 12, tyX3, rfl, by decide, xlay3, (xwc7 _ (List.mem_of_getElem? (i := 7) rfl)), tyX3_ok, nmX3, rfl, by decide +kernel, rfl⟩
theorem fgX3_19 : LkG RX3 19 3 2 := ⟨RX3, TX3, 12, rfl, by decide, xlay3, (xwc7 _ (List.mem_of_getElem? (i := 8) rfl))⟩
theorem fpX3_19 : LkP RX3 19 3 2 (.array (.object "BatchExecutive$Batch")) true := ⟨RX3, TX3, 12, tyX3, rfl, by decide, xlay3, (xwc7 _ (List.mem_of_getElem? (i := 8) rfl)), tyX3_ok, nmX3, rfl, by decide +kernel, rfl⟩
theorem fgX6_148 : LkG RX6 148 3 2 := ⟨RX3, TX3, 12, rfl, by decide, xlay3, (xwc7 _ (List.mem_of_getElem? (i := 9) rfl))⟩
theorem fpX6_148 : LkP RX6 148 3 2 (.array (.object "BatchExecutive$Batch")) true := ⟨RX3, TX3, 12, tyX3, rfl, by decide, xlay3, (xwc7 _ (List.mem_of_getElem? (i := 9) rfl)), tyX3_ok, nmX3, rfl, by decide +kernel, rfl⟩
theorem fgX3_23 : LkG RX3 23 3 3 := ⟨RX3, TX3, 12, rfl, by decide, xlay3, (xwc7 _ (List.mem_of_getElem? (i := 10) rfl))⟩
theorem fpX3_23 : LkP RX3 23 3 3 (.array .int) true := ⟨RX3, TX3, 12, tyX3, rfl, by decide, xlay3, (xwc7 _ (List.mem_of_getElem? (i := 10) rfl)), tyX3_ok, nmX3, rfl, by decide +kernel, rfl⟩
theorem fgX6_101 : LkG RX6 101 3 3 := ⟨RX3, TX3, 12, rfl, by decide, xlay3, (xwc7 _ (List.mem_of_getElem? (i := 11) rfl))⟩
theorem fpX6_101 : LkP RX6 101 3 3 (.array .int) true := ⟨RX3, TX3, 12, tyX3, rfl, by decide, xlay3, (xwc7 _ (List.mem_of_getElem? (i := 11) rfl)), tyX3_ok, nmX3, rfl, by decide +kernel, rfl⟩
theorem fgX3_27 : LkG RX3 27 3 4 := ⟨RX3, TX3, 12, rfl, by decide, xlay3, (xwc7 _ (List.mem_of_getElem? (i := 12) rfl))⟩
theorem fpX3_27 : LkP RX3 27 3 4 (.array .int) true := ⟨RX3, TX3, 12, tyX3, rfl, by decide, xlay3, (xwc7 _ (List.mem_of_getElem? (i := 12) rfl)), tyX3_ok, nmX3, rfl, by decide +kernel, rfl⟩
theorem fgX6_115 : LkG RX6 115 3 4 := ⟨RX3, TX3, 12, rfl, by decide, xlay3, (xwc7 _ (List.mem_of_getElem? (i := 13) rfl))⟩
theorem fpX6_115 : LkP RX6 115 3 4 (.array .int) true := ⟨RX3, TX3, 12, tyX3, rfl, by decide, xlay3, (xwc7 _ (List.mem_of_getElem? (i := 13) rfl)), tyX3_ok, nmX3, rfl, by decide +kernel, rfl⟩
theorem fgX3_33 : LkG RX3 33 3 5 := ⟨RX3, TX3, 12, rfl, by decide, xlay3, (xwc7 _ (List.mem_of_getElem? (i := 14) rfl))⟩
theorem fpX3_33 : LkP RX3 33 3 5 (.object "BatchExecutive$Journal") true := ⟨RX3, TX3, 12, tyX3, rfl, by decide, xlay3, (xwc7 _ (List.mem_of_getElem? (i := 14) rfl)), tyX3_ok, nmX3, rfl, by decide +kernel, rfl⟩
theorem fgX6_244 : LkG RX6 244 3 5 := ⟨RX3, TX3, 12, rfl, by decide, xlay3, (xwc7 _ (List.mem_of_getElem? (i := 15) rfl))⟩
theorem fpX6_244 : LkP RX6 244 3 5 (.object "BatchExecutive$Journal") true := ⟨RX3, TX3, 12, tyX3, rfl, by decide, xlay3, (xwc7 _ (List.mem_of_getElem? (i := 15) rfl)), tyX3_ok, nmX3, rfl, by decide +kernel, rfl⟩
theorem fgX3_37 : LkG RX3 37 3 6 := ⟨RX3, TX3, 12, rfl, by decide, xlay3, (xwc7 _ (List.mem_of_getElem? (i := 16) rfl))⟩
theorem fpX3_37 : LkP RX3 37 3 6 (.array .int) true := ⟨RX3, TX3, 12, tyX3, rfl, by decide, xlay3, (xwc7 _ (List.mem_of_getElem? (i := 16) rfl)), tyX3_ok, nmX3, rfl, by decide +kernel, rfl⟩
theorem fgX6_227 : LkG RX6 227 3 6 := ⟨RX3, TX3, 12, rfl, by decide, xlay3, (xwc7 _ (List.mem_of_getElem? (i := 17) rfl))⟩
theorem fpX6_227 : LkP RX6 227 3 6 (.array .int) true := ⟨RX3, TX3, 12, tyX3, rfl, by decide, xlay3, (xwc7 _ (List.mem_of_getElem? (i := 17) rfl)), tyX3_ok, nmX3, rfl, by decide +kernel, rfl⟩
theorem fgX3_50 : LkG RX3 50 3 7 := ⟨RX3, TX3, 12, rfl, by decide, xlay3, (xwc7 _ (List.mem_of_getElem? (i := 18) rfl))⟩
theorem fpX3_50 : LkP RX3 50 3 7 .int false := ⟨RX3, TX3, 12, tyX3, rfl, by decide, xlay3, (xwc7 _ (List.mem_of_getElem? (i := 18) rfl)), tyX3_ok, nmX3, rfl, by decide +kernel, rfl⟩
theorem fgX6_43 : LkG RX6 43 3 7 := ⟨RX3, TX3, 12, rfl, by decide, xlay3, (xwc7 _ (List.mem_of_getElem? (i := 19) rfl))⟩
theorem fpX6_43 : LkP RX6 43 3 7 .int false := ⟨RX3, TX3, 12, tyX3, rfl, by decide, xlay3, (xwc7 _ (List.mem_of_getElem? (i := 19) rfl)), tyX3_ok, nmX3, rfl, by decide +kernel, rfl⟩
theorem fgX3_57 : LkG RX3 57 3 8 := ⟨RX3, TX3, 12, rfl, by decide, xlay3, (xwc7 _ (List.mem_of_getElem? (i := 20) rfl))⟩
theorem fpX3_57 : LkP RX3 57 3 8 .int false := ⟨RX3, TX3, 12, tyX3, rfl, by decide, xlay3, (xwc7 _ (List.mem_of_getElem? (i := 20) rfl)), tyX3_ok, nmX3, rfl, by decide +kernel, rfl⟩
theorem fgX6_141 : LkG RX6 141 3 8 := ⟨RX3, TX3, 12, rfl, by decide, xlay3, (xwc7 _ (List.mem_of_getElem? (i := 21) rfl))⟩
theorem fpX6_141 : LkP RX6 141 3 8 .int false := ⟨RX3, TX3, 12, tyX3, rfl, by decide, xlay3, (xwc7 _ (List.mem_of_getElem? (i := 21) rfl)), tyX3_ok, nmX3, rfl, by decide +kernel, rfl⟩
theorem fgX6_224 : LkG RX6 224 3 9 := ⟨RX3, TX3, 12, rfl, by decide, xlay3, (xwc7 _ (List.mem_of_getElem? (i := 22) rfl))⟩
theorem fpX6_224 : LkP RX6 224 3 9 .int false := ⟨RX3, TX3, 12, tyX3, rfl, by decide, xlay3, (xwc7 _ (List.mem_of_getElem? (i := 22) rfl)), tyX3_ok, nmX3, rfl, by decide +kernel, rfl⟩
theorem fgX3_168 : LkG RX3 168 3 9 := ⟨RX3, TX3, 12, rfl, by decide, xlay3, (xwc7 _ (List.mem_of_getElem? (i := 23) rfl))⟩
theorem fpX3_168 : LkP RX3 168 3 9 .int false := ⟨RX3, TX3, 12, tyX3, rfl, by decide, xlay3, (xwc7 _ (List.mem_of_getElem? (i := 23) rfl)), tyX3_ok, nmX3, rfl, by decide +kernel, rfl⟩
theorem fgX3_72 : LkG RX3 72 3 10 := ⟨RX3, TX3, 12, rfl, by decide, xlay3, (xwc7 _ (List.mem_of_getElem? (i := 24) rfl))⟩
theorem fpX3_72 : LkP RX3 72 3 10 .int false := ⟨RX3, TX3, 12, tyX3, rfl, by decide, xlay3, (xwc7 _ (List.mem_of_getElem? (i := 24) rfl)), tyX3_ok, nmX3, rfl, by decide +kernel, rfl⟩
theorem fgX6_230 : LkG RX6 230 3 10 := ⟨RX3, TX3, 12, rfl, by decide, xlay3, (xwc7 _ (List.mem_of_getElem? (i := 25) rfl))⟩
theorem fpX6_230 : LkP RX6 230 3 10 .int false := ⟨RX3, TX3, 12, tyX3, rfl, by decide, xlay3, (xwc7 _ (List.mem_of_getElem? (i := 25) rfl)), tyX3_ok, nmX3, rfl, by decide +kernel, rfl⟩
theorem fgX3_40 : LkG RX3 40 3 11 := ⟨RX3, TX3, 12, rfl, by decide, xlay3, (xwc7 _ (List.mem_of_getElem? (i := 26) rfl))⟩
theorem fpX3_40 : LkP RX3 40 3 11 .int false := ⟨RX3, TX3, 12, tyX3, rfl, by decide, xlay3, (xwc7 _ (List.mem_of_getElem? (i := 26) rfl)), tyX3_ok, nmX3, rfl, by decide +kernel, rfl⟩
theorem fgX6_105 : LkG RX6 105 3 11 := ⟨RX3, TX3, 12, rfl, by decide, xlay3, (xwc7 _ (List.mem_of_getElem? (i := 27) rfl))⟩
theorem fpX6_105 : LkP RX6 105 3 11 .int false := ⟨RX3, TX3, 12, tyX3, rfl, by decide, xlay3, (xwc7 _ (List.mem_of_getElem? (i := 27) rfl)), tyX3_ok, nmX3, rfl, by decide +kernel, rfl⟩
theorem fgX6_10 : LkG RX6 10 6 0 := ⟨RX6, TX6, 6, rfl, by decide, xlay6, (xwc8 _ (List.mem_of_getElem? (i := 10) rfl))⟩
theorem fpX6_10 : LkP RX6 10 6 0 (.object "BatchExecutive$Book") true := ⟨RX6, TX6, 6, tyX6, rfl, by decide, xlay6, (xwc8 _ (List.mem_of_getElem? (i := 10) rfl)), tyX6_ok, nmX6, rfl, by decide +kernel, rfl⟩
theorem fgX6_19 : LkG RX6 19 6 1 := ⟨RX6, TX6, 6, rfl, by decide, xlay6, (xwc8 _ (List.mem_of_getElem? (i := 11) rfl))⟩
theorem fpX6_19 : LkP RX6 19 6 1 (.object "BatchExecutive$Text") true := ⟨RX6, TX6, 6, tyX6, rfl, by decide, xlay6, (xwc8 _ (List.mem_of_getElem? (i := 11) rfl)), tyX6_ok, nmX6, rfl, by decide +kernel, rfl⟩
theorem fgX6_28 : LkG RX6 28 6 2 := ⟨RX6, TX6, 6, rfl, by decide, xlay6, (xwc8 _ (List.mem_of_getElem? (i := 12) rfl))⟩
theorem fpX6_28 : LkP RX6 28 6 2 (.object "BatchExecutive$State") true := ⟨RX6, TX6, 6, tyX6, rfl, by decide, xlay6, (xwc8 _ (List.mem_of_getElem? (i := 12) rfl)), tyX6_ok, nmX6, rfl, by decide +kernel, rfl⟩
theorem fgX6_32 : LkG RX6 32 6 3 := ⟨RX6, TX6, 6, rfl, by decide, xlay6, (xwc8 _ (List.mem_of_getElem? (i := 13) rfl))⟩
theorem fpX6_32 : LkP RX6 32 6 3 (.object "BatchExecutive$State") true := ⟨RX6, TX6, 6, tyX6, rfl, by decide, xlay6, (xwc8 _ (List.mem_of_getElem? (i := 13) rfl)), tyX6_ok, nmX6, rfl, by decide +kernel, rfl⟩
theorem fgX6_35 : LkG RX6 35 6 4 := ⟨RX6, TX6, 6, rfl, by decide, xlay6, (xwc8 _ (List.mem_of_getElem? (i := 14) rfl))⟩
theorem fpX6_35 : LkP RX6 35 6 4 (.array (.object "BatchExecutive$State")) true := ⟨RX6, TX6, 6, tyX6, rfl, by decide, xlay6, (xwc8 _ (List.mem_of_getElem? (i := 14) rfl)), tyX6_ok, nmX6, rfl, by decide +kernel, rfl⟩
theorem fgX6_253 : LkG RX6 253 6 5 := ⟨RX6, TX6, 6, rfl, by decide, xlay6, (xwc8 _ (List.mem_of_getElem? (i := 15) rfl))⟩
theorem fpX6_253 : LkP RX6 253 6 5 .int false := ⟨RX6, TX6, 6, tyX6, rfl, by decide, xlay6, (xwc8 _ (List.mem_of_getElem? (i := 15) rfl)), tyX6_ok, nmX6, rfl, by decide +kernel, rfl⟩
theorem fgX7_7 : LkG RX7 7 7 0 := ⟨RX7, TX7, 11, rfl, by decide, xlay7, (xwc20 _ (List.mem_of_getElem? (i := 25) rfl))⟩
theorem fpX7_7 : LkP RX7 7 7 0 (.array .int) true := ⟨RX7, TX7, 11, tyX7, rfl, by decide, xlay7, (xwc20 _ (List.mem_of_getElem? (i := 25) rfl)), tyX7_ok, nmX7, rfl, by decide +kernel, rfl⟩
theorem fgX7_13 : LkG RX7 13 7 1 := ⟨RX7, TX7, 11, rfl, by decide, xlay7, (xwc20 _ (List.mem_of_getElem? (i := 26) rfl))⟩
theorem fpX7_13 : LkP RX7 13 7 1 (.array .int) true := ⟨RX7, TX7, 11, tyX7, rfl, by decide, xlay7, (xwc20 _ (List.mem_of_getElem? (i := 26) rfl)), tyX7_ok, nmX7, rfl, by decide +kernel, rfl⟩
theorem fgX7_16 : LkG RX7 16 7 2 := ⟨RX7, TX7, 11, rfl, by decide, xlay7, (xwc20 _ (List.mem_of_getElem? (i := 27) rfl))⟩
theorem fpX7_16 : LkP RX7 16 7 2 (.array .int) true := ⟨RX7, TX7, 11, tyX7, rfl, by decide, xlay7, (xwc20 _ (List.mem_of_getElem? (i := 27) rfl)), tyX7_ok, nmX7, rfl, by decide +kernel, rfl⟩
theorem fgX7_28 : LkG RX7 28 7 3 := ⟨RX7, TX7, 11, rfl, by decide, xlay7, (xwc20 _ (List.mem_of_getElem? (i := 28) rfl))⟩
theorem fpX7_28 : LkP RX7 28 7 3 .int false := ⟨RX7, TX7, 11, tyX7, rfl, by decide, xlay7, (xwc20 _ (List.mem_of_getElem? (i := 28) rfl)), tyX7_ok, nmX7, rfl, by decide +kernel, rfl⟩
theorem fgX7_19 : LkG RX7 19 7 4 := ⟨RX7, TX7, 11, rfl, by decide, xlay7, (xwc20 _ (List.mem_of_getElem? (i := 29) rfl))⟩
theorem fpX7_19 : LkP RX7 19 7 4 (.array .int) true := ⟨RX7, TX7, 11, tyX7, rfl, by decide, xlay7, (xwc20 _ (List.mem_of_getElem? (i := 29) rfl)), tyX7_ok, nmX7, rfl, by decide +kernel, rfl⟩
theorem fgX7_95 : LkG RX7 95 7 5 := ⟨RX7, TX7, 11, rfl, by decide, xlay7, (xwc21 _ (List.mem_of_getElem? (i := 0) rfl))⟩
theorem fpX7_95 : LkP RX7 95 7 5 .int false := ⟨RX7, TX7, 11, tyX7, rfl, by decide, xlay7, (xwc21 _ (List.mem_of_getElem? (i := 0) rfl)), tyX7_ok, nmX7, rfl, by decide +kernel, rfl⟩
theorem fgX7_92 : LkG RX7 92 7 6 := ⟨RX7, TX7, 11, rfl, by decide, xlay7, (xwc21 _ (List.mem_of_getElem? (i := 1) rfl))⟩
theorem fpX7_92 : LkP RX7 92 7 6 .int false := ⟨RX7, TX7, 11, tyX7, rfl, by decide, xlay7, (xwc21 _ (List.mem_of_getElem? (i := 1) rfl)), tyX7_ok, nmX7, rfl, by decide +kernel, rfl⟩
theorem fgX7_98 : LkG RX7 98 7 7 := ⟨RX7, TX7, 11, rfl, by decide, xlay7, (xwc21 _ (List.mem_of_getElem? (i := 2) rfl))⟩
theorem fpX7_98 : LkP RX7 98 7 7 .int false := ⟨RX7, TX7, 11, tyX7, rfl, by decide, xlay7, (xwc21 _ (List.mem_of_getElem? (i := 2) rfl)), tyX7_ok, nmX7, rfl, by decide +kernel, rfl⟩
theorem fgX7_101 : LkG RX7 101 7 8 := ⟨RX7, TX7, 11, rfl, by decide, xlay7, (xwc21 _ (List.mem_of_getElem? (i := 3) rfl))⟩
theorem fpX7_101 : LkP RX7 101 7 8 .int false := ⟨RX7, TX7, 11, tyX7, rfl, by decide, xlay7, (xwc21 _ (List.mem_of_getElem? (i := 3) rfl)), tyX7_ok, nmX7, rfl, by decide +kernel, rfl⟩
theorem fgX7_22 : LkG RX7 22 7 9 := ⟨RX7, TX7, 11, rfl, by decide, xlay7, (xwc21 _ (List.mem_of_getElem? (i := 4) rfl))⟩
theorem fpX7_22 : LkP RX7 22 7 9 (.array .int) true := ⟨RX7, TX7, 11, tyX7, rfl, by decide, xlay7, (xwc21 _ (List.mem_of_getElem? (i := 4) rfl)), tyX7_ok, nmX7, rfl, by decide +kernel, rfl⟩
theorem fgX7_25 : LkG RX7 25 7 10 := ⟨RX7, TX7, 11, rfl, by decide, xlay7, (xwc21 _ (List.mem_of_getElem? (i := 5) rfl))⟩
theorem fpX7_25 : LkP RX7 25 7 10 (.array .int) true := ⟨RX7, TX7, 11, tyX7, rfl, by decide, xlay7, (xwc21 _ (List.mem_of_getElem? (i := 5) rfl)), tyX7_ok, nmX7, rfl, by decide +kernel, rfl⟩
theorem miX6_init : LkI yX6_init cX6_init 2 0 := ⟨(xwc2 _ (List.mem_of_getElem? (i := 16) rfl)), (xwc2 _ (List.mem_of_getElem? (i := 3) rfl)), (xwc2 _ (List.mem_of_getElem? (i := 17) rfl)), ⟨by decide +kernel, by decide +kernel, by decide +kernel⟩, rfl⟩
theorem mlL_9 : Cond.methodLink RL 9 yX6_init ∈ xw := (xwc2 _ (List.mem_of_getElem? (i := 15) rfl))
theorem moX6_1 : Cond.methodLink RX6 1 objectInit ∈ xw := (xwc2 _ (List.mem_of_getElem? (i := 18) rfl))
theorem miX1_init : LkI yX1_init cX1_init 1 0 := ⟨(xwc2 _ (List.mem_of_getElem? (i := 23) rfl)), (xwc2 _ (List.mem_of_getElem? (i := 4) rfl)), (xwc2 _ (List.mem_of_getElem? (i := 24) rfl)), ⟨by decide +kernel, by decide +kernel, by decide +kernel⟩, rfl⟩
theorem moX1_3 : Cond.methodLink RX1 3 objectInit ∈ xw := (xwc2 _ (List.mem_of_getElem? (i := 25) rfl))
theorem miX4_init : LkI yX4_init cX4_init 1 0 := ⟨(xwc3 _ (List.mem_of_getElem? (i := 6) rfl)), (xwc2 _ (List.mem_of_getElem? (i := 5) rfl)), (xwc3 _ (List.mem_of_getElem? (i := 7) rfl)), ⟨by decide +kernel, by decide +kernel, by decide +kernel⟩, rfl⟩
theorem moX4_3 : Cond.methodLink RX4 3 objectInit ∈ xw := (xwc3 _ (List.mem_of_getElem? (i := 8) rfl))
theorem miX3_init : LkI yX3_init cX3_init 3 1 := ⟨(xwc4 _ (List.mem_of_getElem? (i := 3) rfl)), (xwc2 _ (List.mem_of_getElem? (i := 6) rfl)), (xwc4 _ (List.mem_of_getElem? (i := 4) rfl)), ⟨by decide +kernel, by decide +kernel, by decide +kernel⟩, rfl⟩
theorem mlX6_25 : Cond.methodLink RX6 25 yX3_init ∈ xw := (xwc4 _ (List.mem_of_getElem? (i := 2) rfl))
theorem moX3_3 : Cond.methodLink RX3 3 objectInit ∈ xw := (xwc4 _ (List.mem_of_getElem? (i := 5) rfl))
theorem miX2_init : LkI yX2_init cX2_init 1 0 := ⟨(xwc4 _ (List.mem_of_getElem? (i := 10) rfl)), (xwc2 _ (List.mem_of_getElem? (i := 7) rfl)), (xwc4 _ (List.mem_of_getElem? (i := 11) rfl)), ⟨by decide +kernel, by decide +kernel, by decide +kernel⟩, rfl⟩
theorem moX2_3 : Cond.methodLink RX2 3 objectInit ∈ xw := (xwc4 _ (List.mem_of_getElem? (i := 12) rfl))
theorem miX5_init : LkI yX5_init cX5_init 1 0 := ⟨(xwc4 _ (List.mem_of_getElem? (i := 25) rfl)), (xwc2 _ (List.mem_of_getElem? (i := 8) rfl)), (xwc4 _ (List.mem_of_getElem? (i := 26) rfl)), ⟨by decide +kernel, by decide +kernel, by decide +kernel⟩, rfl⟩
theorem moX5_3 : Cond.methodLink RX5 3 objectInit ∈ xw := (xwc4 _ (List.mem_of_getElem? (i := 27) rfl))
theorem miX0_init : LkI yX0_init cX0_init 1 0 := ⟨(xwc5 _ (List.mem_of_getElem? (i := 23) rfl)), (xwc2 _ (List.mem_of_getElem? (i := 9) rfl)), (xwc5 _ (List.mem_of_getElem? (i := 24) rfl)), ⟨by decide +kernel, by decide +kernel, by decide +kernel⟩, rfl⟩
theorem moX0_3 : Cond.methodLink RX0 3 objectInit ∈ xw := (xwc5 _ (List.mem_of_getElem? (i := 25) rfl))
theorem mvL_13 : LkV RL 13 yX6_unit cX6_unit 3 (some .int) 6 2 := ⟨(xwc8 _ (List.mem_of_getElem? (i := 22) rfl)), (xwc8 _ (List.mem_of_getElem? (i := 23) rfl)), (xwc8 _ (List.mem_of_getElem? (i := 24) rfl)), (xwc2 _ (List.mem_of_getElem? (i := 3) rfl)), (xwc8 _ (List.mem_of_getElem? (i := 25) rfl)), ⟨by decide +kernel, by decide +kernel, by decide +kernel⟩, _, _, rfl⟩
theorem msX6_39 : LkS RX6 39 yX6_isWithin cX6_isWithin 3 (some .boolean) 3 := ⟨(xwc8 _ (List.mem_of_getElem? (i := 26) rfl)), (xwc8 _ (List.mem_of_getElem? (i := 27) rfl)), (xwc2 _ (List.mem_of_getElem? (i := 3) rfl)), (xwc8 _ (List.mem_of_getElem? (i := 28) rfl)), ⟨by decide +kernel, by decide +kernel, by decide +kernel⟩⟩
theorem mvX6_47 : LkV RX6 47 yX6_record cX6_record 3 none 6 0 := ⟨(xwc8 _ (List.mem_of_getElem? (i := 29) rfl)), (xwc9 _ (List.mem_of_getElem? (i := 0) rfl)), (xwc0 _ (List.mem_of_getElem? (i := 0) rfl)), (xwc2 _ (List.mem_of_getElem? (i := 3) rfl)), (xwc9 _ (List.mem_of_getElem? (i := 1) rfl)), ⟨by decide +kernel, by decide +kernel, by decide +kernel⟩, _, _, rfl⟩
theorem mvX6_237 : LkV RX6 237 yX3_copyFrom cX3_copyFrom 3 none 3 1 := ⟨(xwc9 _ (List.mem_of_getElem? (i := 2) rfl)), (xwc9 _ (List.mem_of_getElem? (i := 3) rfl)), (xwc9 _ (List.mem_of_getElem? (i := 4) rfl)), (xwc2 _ (List.mem_of_getElem? (i := 6) rfl)), (xwc9 _ (List.mem_of_getElem? (i := 5) rfl)), ⟨by decide +kernel, by decide +kernel, by decide +kernel⟩, _, _, rfl⟩
theorem mvX3_53 : LkV RX3 53 yX5_copyFrom cX5_copyFrom 2 none 5 1 := ⟨(xwc9 _ (List.mem_of_getElem? (i := 6) rfl)), (xwc9 _ (List.mem_of_getElem? (i := 7) rfl)), (xwc9 _ (List.mem_of_getElem? (i := 8) rfl)), (xwc2 _ (List.mem_of_getElem? (i := 8) rfl)), (xwc9 _ (List.mem_of_getElem? (i := 9) rfl)), ⟨by decide +kernel, by decide +kernel, by decide +kernel⟩, _, _, rfl⟩
theorem mvX3_60 : LkV RX3 60 yX0_copyFrom cX0_copyFrom 2 none 0 1 := ⟨(xwc9 _ (List.mem_of_getElem? (i := 10) rfl)), (xwc9 _ (List.mem_of_getElem? (i := 11) rfl)), (xwc9 _ (List.mem_of_getElem? (i := 12) rfl)), (xwc2 _ (List.mem_of_getElem? (i := 9) rfl)), (xwc9 _ (List.mem_of_getElem? (i := 13) rfl)), ⟨by decide +kernel, by decide +kernel, by decide +kernel⟩, _, _, rfl⟩
theorem mvX3_69 : LkV RX3 69 yX2_copyFrom cX2_copyFrom 2 none 2 1 := ⟨(xwc9 _ (List.mem_of_getElem? (i := 17) rfl)), (xwc9 _ (List.mem_of_getElem? (i := 18) rfl)), (xwc9 _ (List.mem_of_getElem? (i := 19) rfl)), (xwc2 _ (List.mem_of_getElem? (i := 7) rfl)), (xwc9 _ (List.mem_of_getElem? (i := 20) rfl)), ⟨by decide +kernel, by decide +kernel, by decide +kernel⟩, _, _, rfl⟩
theorem mvX6_50 : LkV RX6 50 yX3_addUnit cX3_addUnit 4 (some .int) 3 2 := ⟨(xwc9 _ (List.mem_of_getElem? (i := 22) rfl)), (xwc9 _ (List.mem_of_getElem? (i := 23) rfl)), (xwc9 _ (List.mem_of_getElem? (i := 24) rfl)), (xwc2 _ (List.mem_of_getElem? (i := 6) rfl)), (xwc9 _ (List.mem_of_getElem? (i := 25) rfl)), ⟨by decide +kernel, by decide +kernel, by decide +kernel⟩, _, _, rfl⟩
theorem mvX3_75 : LkV RX3 75 yX5_reset cX5_reset 3 none 5 2 := ⟨(xwc9 _ (List.mem_of_getElem? (i := 26) rfl)), (xwc9 _ (List.mem_of_getElem? (i := 27) rfl)), (xwc9 _ (List.mem_of_getElem? (i := 28) rfl)), (xwc2 _ (List.mem_of_getElem? (i := 8) rfl)), (xwc9 _ (List.mem_of_getElem? (i := 29) rfl)), ⟨by decide +kernel, by decide +kernel, by decide +kernel⟩, _, _, rfl⟩
theorem mvL_18 : LkV RL 18 yX6_fail cX6_fail 2 (some .int) 6 1 := ⟨(xwc10 _ (List.mem_of_getElem? (i := 0) rfl)), (xwc10 _ (List.mem_of_getElem? (i := 1) rfl)), (xwc10 _ (List.mem_of_getElem? (i := 2) rfl)), (xwc2 _ (List.mem_of_getElem? (i := 3) rfl)), (xwc10 _ (List.mem_of_getElem? (i := 3) rfl)), ⟨by decide +kernel, by decide +kernel, by decide +kernel⟩, _, _, rfl⟩
theorem mvX6_54 : LkV RX6 54 yX6_isUnit cX6_isUnit 2 (some .boolean) 6 1 := ⟨(xwc10 _ (List.mem_of_getElem? (i := 4) rfl)), (xwc10 _ (List.mem_of_getElem? (i := 5) rfl)), (xwc0 _ (List.mem_of_getElem? (i := 1) rfl)), (xwc2 _ (List.mem_of_getElem? (i := 3) rfl)), (xwc10 _ (List.mem_of_getElem? (i := 6) rfl)), ⟨by decide +kernel, by decide +kernel, by decide +kernel⟩, _, _, rfl⟩
theorem mvX6_68 : LkV RX6 68 yX3_breakUnit cX3_breakUnit 3 (some .int) 3 1 := ⟨(xwc10 _ (List.mem_of_getElem? (i := 7) rfl)), (xwc10 _ (List.mem_of_getElem? (i := 8) rfl)), (xwc10 _ (List.mem_of_getElem? (i := 9) rfl)), (xwc2 _ (List.mem_of_getElem? (i := 6) rfl)), (xwc10 _ (List.mem_of_getElem? (i := 10) rfl)), ⟨by decide +kernel, by decide +kernel, by decide +kernel⟩, _, _, rfl⟩
theorem mvX3_86 : LkV RX3 86 yX0_isActive cX0_isActive 1 (some .boolean) 0 0 := ⟨(xwc10 _ (List.mem_of_getElem? (i := 11) rfl)), (xwc10 _ (List.mem_of_getElem? (i := 12) rfl)), (xwc10 _ (List.mem_of_getElem? (i := 13) rfl)), (xwc2 _ (List.mem_of_getElem? (i := 9) rfl)), (xwc10 _ (List.mem_of_getElem? (i := 14) rfl)), ⟨by decide +kernel, by decide +kernel, by decide +kernel⟩, _, _, rfl⟩
theorem mvX3_90 : LkV RX3 90 yX3_holdBatch cX3_holdBatch 2 none 3 1 := ⟨(xwc10 _ (List.mem_of_getElem? (i := 15) rfl)), (xwc10 _ (List.mem_of_getElem? (i := 16) rfl)), (xwc10 _ (List.mem_of_getElem? (i := 17) rfl)), (xwc2 _ (List.mem_of_getElem? (i := 6) rfl)), (xwc10 _ (List.mem_of_getElem? (i := 18) rfl)), ⟨by decide +kernel, by decide +kernel, by decide +kernel⟩, _, _, rfl⟩
theorem mvX3_146 : LkV RX3 146 yX3_releasePieces cX3_releasePieces 3 none 3 1 := ⟨(xwc10 _ (List.mem_of_getElem? (i := 19) rfl)), (xwc10 _ (List.mem_of_getElem? (i := 20) rfl)), (xwc0 _ (List.mem_of_getElem? (i := 2) rfl)), (xwc2 _ (List.mem_of_getElem? (i := 6) rfl)), (xwc10 _ (List.mem_of_getElem? (i := 21) rfl)), ⟨by decide +kernel, by decide +kernel, by decide +kernel⟩, _, _, rfl⟩
theorem mvX3_149 : LkV RX3 149 yX2_add cX2_add 4 none 2 3 := ⟨(xwc10 _ (List.mem_of_getElem? (i := 22) rfl)), (xwc10 _ (List.mem_of_getElem? (i := 23) rfl)), (xwc10 _ (List.mem_of_getElem? (i := 24) rfl)), (xwc2 _ (List.mem_of_getElem? (i := 7) rfl)), (xwc10 _ (List.mem_of_getElem? (i := 25) rfl)), ⟨by decide +kernel, by decide +kernel, by decide +kernel⟩, _, _, rfl⟩
theorem msX6_72 : LkS RX6 72 yX6_orNotFound cX6_orNotFound 1 (some .int) 1 := ⟨(xwc10 _ (List.mem_of_getElem? (i := 26) rfl)), (xwc10 _ (List.mem_of_getElem? (i := 27) rfl)), (xwc2 _ (List.mem_of_getElem? (i := 3) rfl)), (xwc10 _ (List.mem_of_getElem? (i := 28) rfl)), ⟨by decide +kernel, by decide +kernel, by decide +kernel⟩⟩
theorem mvL_23 : LkV RL 23 yX6_repair cX6_repair 2 (some .int) 6 1 := ⟨(xwc10 _ (List.mem_of_getElem? (i := 29) rfl)), (xwc11 _ (List.mem_of_getElem? (i := 0) rfl)), (xwc11 _ (List.mem_of_getElem? (i := 1) rfl)), (xwc2 _ (List.mem_of_getElem? (i := 3) rfl)), (xwc11 _ (List.mem_of_getElem? (i := 2) rfl)), ⟨by decide +kernel, by decide +kernel, by decide +kernel⟩, _, _, rfl⟩
theorem mvX6_75 : LkV RX6 75 yX3_brokenUnits cX3_brokenUnits 3 (some .int) 3 0 := ⟨(xwc11 _ (List.mem_of_getElem? (i := 3) rfl)), (xwc11 _ (List.mem_of_getElem? (i := 4) rfl)), (xwc11 _ (List.mem_of_getElem? (i := 5) rfl)), (xwc2 _ (List.mem_of_getElem? (i := 6) rfl)), (xwc11 _ (List.mem_of_getElem? (i := 6) rfl)), ⟨by decide +kernel, by decide +kernel, by decide +kernel⟩, _, _, rfl⟩
theorem mvL_27 : LkV RL 27 yX6_unitInfo cX6_unitInfo 4 (some .int) 6 2 := ⟨(xwc11 _ (List.mem_of_getElem? (i := 7) rfl)), (xwc11 _ (List.mem_of_getElem? (i := 8) rfl)), (xwc11 _ (List.mem_of_getElem? (i := 9) rfl)), (xwc2 _ (List.mem_of_getElem? (i := 3) rfl)), (xwc11 _ (List.mem_of_getElem? (i := 10) rfl)), ⟨by decide +kernel, by decide +kernel, by decide +kernel⟩, _, _, rfl⟩
theorem msX6_88 : LkS RX6 88 yX6_oneIf cX6_oneIf 1 (some .int) 1 := ⟨(xwc11 _ (List.mem_of_getElem? (i := 11) rfl)), (xwc11 _ (List.mem_of_getElem? (i := 12) rfl)), (xwc2 _ (List.mem_of_getElem? (i := 3) rfl)), (xwc11 _ (List.mem_of_getElem? (i := 13) rfl)), ⟨by decide +kernel, by decide +kernel, by decide +kernel⟩⟩
theorem mvX6_98 : LkV RX6 98 yX5_isFreeAfter cX5_isFreeAfter 2 (some .boolean) 5 1 := ⟨(xwc11 _ (List.mem_of_getElem? (i := 14) rfl)), (xwc11 _ (List.mem_of_getElem? (i := 15) rfl)), (xwc11 _ (List.mem_of_getElem? (i := 16) rfl)), (xwc2 _ (List.mem_of_getElem? (i := 8) rfl)), (xwc11 _ (List.mem_of_getElem? (i := 17) rfl)), ⟨by decide +kernel, by decide +kernel, by decide +kernel⟩, _, _, rfl⟩
theorem mvL_31 : LkV RL 31 yX6_shared cX6_shared 2 (some .int) 6 1 := ⟨(xwc11 _ (List.mem_of_getElem? (i := 18) rfl)), (xwc11 _ (List.mem_of_getElem? (i := 19) rfl)), (xwc11 _ (List.mem_of_getElem? (i := 20) rfl)), (xwc2 _ (List.mem_of_getElem? (i := 3) rfl)), (xwc11 _ (List.mem_of_getElem? (i := 21) rfl)), ⟨by decide +kernel, by decide +kernel, by decide +kernel⟩, _, _, rfl⟩
theorem mvL_35 : LkV RL 35 yX6_setCleaning cX6_setCleaning 3 (some .int) 6 1 := ⟨(xwc11 _ (List.mem_of_getElem? (i := 22) rfl)), (xwc11 _ (List.mem_of_getElem? (i := 23) rfl)), (xwc11 _ (List.mem_of_getElem? (i := 24) rfl)), (xwc2 _ (List.mem_of_getElem? (i := 3) rfl)), (xwc11 _ (List.mem_of_getElem? (i := 25) rfl)), ⟨by decide +kernel, by decide +kernel, by decide +kernel⟩, _, _, rfl⟩
theorem mvL_39 : LkV RL 39 yX6_recipe cX6_recipe 3 (some .int) 6 1 := ⟨(xwc11 _ (List.mem_of_getElem? (i := 26) rfl)), (xwc11 _ (List.mem_of_getElem? (i := 27) rfl)), (xwc11 _ (List.mem_of_getElem? (i := 28) rfl)), (xwc2 _ (List.mem_of_getElem? (i := 3) rfl)), (xwc11 _ (List.mem_of_getElem? (i := 29) rfl)), ⟨by decide +kernel, by decide +kernel, by decide +kernel⟩, _, _, rfl⟩
theorem msX6_106 : LkS RX6 106 yX6_isRecipe cX6_isRecipe 1 (some .boolean) 1 := ⟨(xwc12 _ (List.mem_of_getElem? (i := 0) rfl)), (xwc12 _ (List.mem_of_getElem? (i := 1) rfl)), (xwc2 _ (List.mem_of_getElem? (i := 3) rfl)), (xwc12 _ (List.mem_of_getElem? (i := 2) rfl)), ⟨by decide +kernel, by decide +kernel, by decide +kernel⟩⟩
theorem mvX6_109 : LkV RX6 109 yX4_read cX4_read 2 none 4 0 := ⟨(xwc12 _ (List.mem_of_getElem? (i := 3) rfl)), (xwc12 _ (List.mem_of_getElem? (i := 4) rfl)), (xwc12 _ (List.mem_of_getElem? (i := 5) rfl)), (xwc2 _ (List.mem_of_getElem? (i := 5) rfl)), (xwc12 _ (List.mem_of_getElem? (i := 6) rfl)), ⟨by decide +kernel, by decide +kernel, by decide +kernel⟩, _, _, rfl⟩
theorem mvX4_36 : LkV RX4 36 yX4_readPhase cX4_readPhase 2 none 4 0 := ⟨(xwc12 _ (List.mem_of_getElem? (i := 7) rfl)), (xwc12 _ (List.mem_of_getElem? (i := 8) rfl)), (xwc0 _ (List.mem_of_getElem? (i := 3) rfl)), (xwc2 _ (List.mem_of_getElem? (i := 5) rfl)), (xwc12 _ (List.mem_of_getElem? (i := 9) rfl)), ⟨by decide +kernel, by decide +kernel, by decide +kernel⟩, _, _, rfl⟩
theorem mvX4_39 : LkV RX4 39 yX4_current cX4_current 1 (some .int) 4 0 := ⟨(xwc12 _ (List.mem_of_getElem? (i := 10) rfl)), (xwc12 _ (List.mem_of_getElem? (i := 11) rfl)), (xwc0 _ (List.mem_of_getElem? (i := 4) rfl)), (xwc2 _ (List.mem_of_getElem? (i := 5) rfl)), (xwc12 _ (List.mem_of_getElem? (i := 12) rfl)), ⟨by decide +kernel, by decide +kernel, by decide +kernel⟩, _, _, rfl⟩
theorem msX4_43 : LkS RX4 43 yX4_kindOf cX4_kindOf 1 (some .int) 1 := ⟨(xwc12 _ (List.mem_of_getElem? (i := 13) rfl)), (xwc12 _ (List.mem_of_getElem? (i := 14) rfl)), (xwc2 _ (List.mem_of_getElem? (i := 5) rfl)), (xwc12 _ (List.mem_of_getElem? (i := 15) rfl)), ⟨by decide +kernel, by decide +kernel, by decide +kernel⟩⟩
theorem mvX4_47 : LkV RX4 47 yX4_blameCurrent cX4_blameCurrent 1 none 4 0 := ⟨(xwc12 _ (List.mem_of_getElem? (i := 16) rfl)), (xwc12 _ (List.mem_of_getElem? (i := 17) rfl)), (xwc0 _ (List.mem_of_getElem? (i := 5) rfl)), (xwc2 _ (List.mem_of_getElem? (i := 5) rfl)), (xwc12 _ (List.mem_of_getElem? (i := 18) rfl)), ⟨by decide +kernel, by decide +kernel, by decide +kernel⟩, _, _, rfl⟩
theorem mvX4_50 : LkV RX4 50 yX4_blame cX4_blame 3 none 4 2 := ⟨(xwc12 _ (List.mem_of_getElem? (i := 19) rfl)), (xwc12 _ (List.mem_of_getElem? (i := 20) rfl)), (xwc0 _ (List.mem_of_getElem? (i := 6) rfl)), (xwc2 _ (List.mem_of_getElem? (i := 5) rfl)), (xwc12 _ (List.mem_of_getElem? (i := 21) rfl)), ⟨by decide +kernel, by decide +kernel, by decide +kernel⟩, _, _, rfl⟩
theorem mvX4_54 : LkV RX4 54 yX4_readRest cX4_readRest 2 none 4 1 := ⟨(xwc12 _ (List.mem_of_getElem? (i := 22) rfl)), (xwc12 _ (List.mem_of_getElem? (i := 23) rfl)), (xwc0 _ (List.mem_of_getElem? (i := 7) rfl)), (xwc2 _ (List.mem_of_getElem? (i := 5) rfl)), (xwc12 _ (List.mem_of_getElem? (i := 24) rfl)), ⟨by decide +kernel, by decide +kernel, by decide +kernel⟩, _, _, rfl⟩
theorem mvX4_58 : LkV RX4 58 yX4_readNumber cX4_readNumber 6 (some .int) 4 2 := ⟨(xwc12 _ (List.mem_of_getElem? (i := 25) rfl)), (xwc12 _ (List.mem_of_getElem? (i := 26) rfl)), (xwc0 _ (List.mem_of_getElem? (i := 8) rfl)), (xwc2 _ (List.mem_of_getElem? (i := 5) rfl)), (xwc12 _ (List.mem_of_getElem? (i := 27) rfl)), ⟨by decide +kernel, by decide +kernel, by decide +kernel⟩, _, _, rfl⟩
theorem msX4_73 : LkS RX4 73 yX4_isDigit cX4_isDigit 1 (some .boolean) 1 := ⟨(xwc12 _ (List.mem_of_getElem? (i := 28) rfl)), (xwc12 _ (List.mem_of_getElem? (i := 29) rfl)), (xwc2 _ (List.mem_of_getElem? (i := 5) rfl)), (xwc13 _ (List.mem_of_getElem? (i := 0) rfl)), ⟨by decide +kernel, by decide +kernel, by decide +kernel⟩⟩
theorem mvX4_62 : LkV RX4 62 yX4_passes cX4_passes 2 (some .boolean) 4 1 := ⟨(xwc13 _ (List.mem_of_getElem? (i := 1) rfl)), (xwc13 _ (List.mem_of_getElem? (i := 2) rfl)), (xwc0 _ (List.mem_of_getElem? (i := 9) rfl)), (xwc2 _ (List.mem_of_getElem? (i := 5) rfl)), (xwc13 _ (List.mem_of_getElem? (i := 3) rfl)), ⟨by decide +kernel, by decide +kernel, by decide +kernel⟩, _, _, rfl⟩
theorem mvX4_66 : LkV RX4 66 yX4_readPiece cX4_readPiece 2 (some .int) 4 0 := ⟨(xwc13 _ (List.mem_of_getElem? (i := 4) rfl)), (xwc13 _ (List.mem_of_getElem? (i := 5) rfl)), (xwc0 _ (List.mem_of_getElem? (i := 10) rfl)), (xwc2 _ (List.mem_of_getElem? (i := 5) rfl)), (xwc13 _ (List.mem_of_getElem? (i := 6) rfl)), ⟨by decide +kernel, by decide +kernel, by decide +kernel⟩, _, _, rfl⟩
theorem mnX4_69 : LkSN yX6_oneIf cX6_oneIf 1 (some .int) 1 := ⟨(xwc11 _ (List.mem_of_getElem? (i := 12) rfl)), (xwc2 _ (List.mem_of_getElem? (i := 3) rfl)), (xwc11 _ (List.mem_of_getElem? (i := 13) rfl)), ⟨by decide +kernel, by decide +kernel, by decide +kernel⟩⟩
theorem msX6_118 : LkS RX6 118 yX1_pageOf cX1_pageOf 2 (some .int) 2 := ⟨(xwc13 _ (List.mem_of_getElem? (i := 7) rfl)), (xwc13 _ (List.mem_of_getElem? (i := 8) rfl)), (xwc2 _ (List.mem_of_getElem? (i := 4) rfl)), (xwc13 _ (List.mem_of_getElem? (i := 9) rfl)), ⟨by decide +kernel, by decide +kernel, by decide +kernel⟩⟩
theorem mvX6_121 : LkV RX6 121 yX1_write cX1_write 4 none 1 2 := ⟨(xwc13 _ (List.mem_of_getElem? (i := 10) rfl)), (xwc13 _ (List.mem_of_getElem? (i := 11) rfl)), (xwc13 _ (List.mem_of_getElem? (i := 12) rfl)), (xwc2 _ (List.mem_of_getElem? (i := 4) rfl)), (xwc13 _ (List.mem_of_getElem? (i := 13) rfl)), ⟨by decide +kernel, by decide +kernel, by decide +kernel⟩, _, _, rfl⟩
theorem mvL_43 : LkV RL 43 yX6_versions cX6_versions 2 (some .int) 6 1 := ⟨(xwc13 _ (List.mem_of_getElem? (i := 15) rfl)), (xwc13 _ (List.mem_of_getElem? (i := 16) rfl)), (xwc13 _ (List.mem_of_getElem? (i := 17) rfl)), (xwc2 _ (List.mem_of_getElem? (i := 3) rfl)), (xwc13 _ (List.mem_of_getElem? (i := 18) rfl)), ⟨by decide +kernel, by decide +kernel, by decide +kernel⟩, _, _, rfl⟩
theorem mvL_47 : LkV RL 47 yX6_phase cX6_phase 6 (some .int) 6 4 := ⟨(xwc13 _ (List.mem_of_getElem? (i := 19) rfl)), (xwc13 _ (List.mem_of_getElem? (i := 20) rfl)), (xwc13 _ (List.mem_of_getElem? (i := 21) rfl)), (xwc2 _ (List.mem_of_getElem? (i := 3) rfl)), (xwc13 _ (List.mem_of_getElem? (i := 22) rfl)), ⟨by decide +kernel, by decide +kernel, by decide +kernel⟩, _, _, rfl⟩
theorem mvX6_128 : LkV RX6 128 yX1_find cX1_find 4 (some .int) 1 3 := ⟨(xwc13 _ (List.mem_of_getElem? (i := 23) rfl)), (xwc13 _ (List.mem_of_getElem? (i := 24) rfl)), (xwc13 _ (List.mem_of_getElem? (i := 25) rfl)), (xwc2 _ (List.mem_of_getElem? (i := 4) rfl)), (xwc13 _ (List.mem_of_getElem? (i := 26) rfl)), ⟨by decide +kernel, by decide +kernel, by decide +kernel⟩, _, _, rfl⟩
theorem mvL_52 : LkV RL 52 yX6_batch cX6_batch 5 (some .int) 6 4 := ⟨(xwc13 _ (List.mem_of_getElem? (i := 27) rfl)), (xwc13 _ (List.mem_of_getElem? (i := 28) rfl)), (xwc13 _ (List.mem_of_getElem? (i := 29) rfl)), (xwc2 _ (List.mem_of_getElem? (i := 3) rfl)), (xwc14 _ (List.mem_of_getElem? (i := 0) rfl)), ⟨by decide +kernel, by decide +kernel, by decide +kernel⟩, _, _, rfl⟩
theorem msX6_132 : LkS RX6 132 yX6_isPriority cX6_isPriority 1 (some .boolean) 1 := ⟨(xwc14 _ (List.mem_of_getElem? (i := 1) rfl)), (xwc14 _ (List.mem_of_getElem? (i := 2) rfl)), (xwc2 _ (List.mem_of_getElem? (i := 3) rfl)), (xwc14 _ (List.mem_of_getElem? (i := 3) rfl)), ⟨by decide +kernel, by decide +kernel, by decide +kernel⟩⟩
theorem mvX6_135 : LkV RX6 135 yX6_isBatch cX6_isBatch 2 (some .boolean) 6 1 := ⟨(xwc14 _ (List.mem_of_getElem? (i := 4) rfl)), (xwc14 _ (List.mem_of_getElem? (i := 5) rfl)), (xwc0 _ (List.mem_of_getElem? (i := 11) rfl)), (xwc2 _ (List.mem_of_getElem? (i := 3) rfl)), (xwc14 _ (List.mem_of_getElem? (i := 6) rfl)), ⟨by decide +kernel, by decide +kernel, by decide +kernel⟩, _, _, rfl⟩
theorem mvX6_138 : LkV RX6 138 yX3_isGivenUp cX3_isGivenUp 2 (some .boolean) 3 1 := ⟨(xwc14 _ (List.mem_of_getElem? (i := 7) rfl)), (xwc14 _ (List.mem_of_getElem? (i := 8) rfl)), (xwc14 _ (List.mem_of_getElem? (i := 9) rfl)), (xwc2 _ (List.mem_of_getElem? (i := 6) rfl)), (xwc14 _ (List.mem_of_getElem? (i := 10) rfl)), ⟨by decide +kernel, by decide +kernel, by decide +kernel⟩, _, _, rfl⟩
theorem mvX6_144 : LkV RX6 144 yX3_addBatch cX3_addBatch 6 (some .int) 3 4 := ⟨(xwc14 _ (List.mem_of_getElem? (i := 11) rfl)), (xwc14 _ (List.mem_of_getElem? (i := 12) rfl)), (xwc14 _ (List.mem_of_getElem? (i := 13) rfl)), (xwc2 _ (List.mem_of_getElem? (i := 6) rfl)), (xwc14 _ (List.mem_of_getElem? (i := 14) rfl)), ⟨by decide +kernel, by decide +kernel, by decide +kernel⟩, _, _, rfl⟩
theorem mvX3_118 : LkV RX3 118 yX0_reset cX0_reset 6 none 0 5 := ⟨(xwc14 _ (List.mem_of_getElem? (i := 15) rfl)), (xwc14 _ (List.mem_of_getElem? (i := 16) rfl)), (xwc14 _ (List.mem_of_getElem? (i := 17) rfl)), (xwc2 _ (List.mem_of_getElem? (i := 9) rfl)), (xwc14 _ (List.mem_of_getElem? (i := 18) rfl)), ⟨by decide +kernel, by decide +kernel, by decide +kernel⟩, _, _, rfl⟩
theorem mvL_56 : LkV RL 56 yX6_start cX6_start 2 (some .int) 6 1 := ⟨(xwc14 _ (List.mem_of_getElem? (i := 19) rfl)), (xwc14 _ (List.mem_of_getElem? (i := 20) rfl)), (xwc14 _ (List.mem_of_getElem? (i := 21) rfl)), (xwc2 _ (List.mem_of_getElem? (i := 3) rfl)), (xwc14 _ (List.mem_of_getElem? (i := 22) rfl)), ⟨by decide +kernel, by decide +kernel, by decide +kernel⟩, _, _, rfl⟩
theorem mvX6_157 : LkV RX6 157 yX3_batchesIn cX3_batchesIn 4 (some .int) 3 1 := ⟨(xwc14 _ (List.mem_of_getElem? (i := 23) rfl)), (xwc14 _ (List.mem_of_getElem? (i := 24) rfl)), (xwc14 _ (List.mem_of_getElem? (i := 25) rfl)), (xwc2 _ (List.mem_of_getElem? (i := 6) rfl)), (xwc14 _ (List.mem_of_getElem? (i := 26) rfl)), ⟨by decide +kernel, by decide +kernel, by decide +kernel⟩, _, _, rfl⟩
theorem mvL_60 : LkV RL 60 yX6_hold cX6_hold 2 (some .int) 6 1 := ⟨(xwc14 _ (List.mem_of_getElem? (i := 27) rfl)), (xwc14 _ (List.mem_of_getElem? (i := 28) rfl)), (xwc14 _ (List.mem_of_getElem? (i := 29) rfl)), (xwc2 _ (List.mem_of_getElem? (i := 3) rfl)), (xwc15 _ (List.mem_of_getElem? (i := 0) rfl)), ⟨by decide +kernel, by decide +kernel, by decide +kernel⟩, _, _, rfl⟩
theorem mvX6_160 : LkV RX6 160 yX0_isActive cX0_isActive 1 (some .boolean) 0 0 := ⟨(xwc15 _ (List.mem_of_getElem? (i := 1) rfl)), (xwc10 _ (List.mem_of_getElem? (i := 12) rfl)), (xwc10 _ (List.mem_of_getElem? (i := 13) rfl)), (xwc2 _ (List.mem_of_getElem? (i := 9) rfl)), (xwc10 _ (List.mem_of_getElem? (i := 14) rfl)), ⟨by decide +kernel, by decide +kernel, by decide +kernel⟩, _, _, rfl⟩
theorem mvX6_164 : LkV RX6 164 yX3_holdBatch cX3_holdBatch 2 none 3 1 := ⟨(xwc15 _ (List.mem_of_getElem? (i := 2) rfl)), (xwc10 _ (List.mem_of_getElem? (i := 16) rfl)), (xwc10 _ (List.mem_of_getElem? (i := 17) rfl)), (xwc2 _ (List.mem_of_getElem? (i := 6) rfl)), (xwc10 _ (List.mem_of_getElem? (i := 18) rfl)), ⟨by decide +kernel, by decide +kernel, by decide +kernel⟩, _, _, rfl⟩
theorem mvL_64 : LkV RL 64 yX6_restart cX6_restart 2 (some .int) 6 1 := ⟨(xwc15 _ (List.mem_of_getElem? (i := 3) rfl)), (xwc15 _ (List.mem_of_getElem? (i := 4) rfl)), (xwc15 _ (List.mem_of_getElem? (i := 5) rfl)), (xwc2 _ (List.mem_of_getElem? (i := 3) rfl)), (xwc15 _ (List.mem_of_getElem? (i := 6) rfl)), ⟨by decide +kernel, by decide +kernel, by decide +kernel⟩, _, _, rfl⟩
theorem mvX6_168 : LkV RX6 168 yX3_hasBrokenUnit cX3_hasBrokenUnit 3 (some .boolean) 3 1 := ⟨(xwc15 _ (List.mem_of_getElem? (i := 7) rfl)), (xwc15 _ (List.mem_of_getElem? (i := 8) rfl)), (xwc15 _ (List.mem_of_getElem? (i := 9) rfl)), (xwc2 _ (List.mem_of_getElem? (i := 6) rfl)), (xwc15 _ (List.mem_of_getElem? (i := 10) rfl)), ⟨by decide +kernel, by decide +kernel, by decide +kernel⟩, _, _, rfl⟩
theorem mvX6_171 : LkV RX6 171 yX3_restartBatch cX3_restartBatch 3 none 3 1 := ⟨(xwc15 _ (List.mem_of_getElem? (i := 11) rfl)), (xwc15 _ (List.mem_of_getElem? (i := 12) rfl)), (xwc15 _ (List.mem_of_getElem? (i := 13) rfl)), (xwc2 _ (List.mem_of_getElem? (i := 6) rfl)), (xwc15 _ (List.mem_of_getElem? (i := 14) rfl)), ⟨by decide +kernel, by decide +kernel, by decide +kernel⟩, _, _, rfl⟩
theorem mvX3_101 : LkV RX3 101 yX3_valueOf cX3_valueOf 3 (some .int) 3 2 := ⟨(xwc15 _ (List.mem_of_getElem? (i := 15) rfl)), (xwc15 _ (List.mem_of_getElem? (i := 16) rfl)), (xwc0 _ (List.mem_of_getElem? (i := 12) rfl)), (xwc2 _ (List.mem_of_getElem? (i := 6) rfl)), (xwc15 _ (List.mem_of_getElem? (i := 17) rfl)), ⟨by decide +kernel, by decide +kernel, by decide +kernel⟩, _, _, rfl⟩
theorem msX3_133 : LkS RX3 133 yX1_pageOf cX1_pageOf 2 (some .int) 2 := ⟨(xwc15 _ (List.mem_of_getElem? (i := 18) rfl)), (xwc13 _ (List.mem_of_getElem? (i := 8) rfl)), (xwc2 _ (List.mem_of_getElem? (i := 4) rfl)), (xwc13 _ (List.mem_of_getElem? (i := 9) rfl)), ⟨by decide +kernel, by decide +kernel, by decide +kernel⟩⟩
theorem mvX3_142 : LkV RX3 142 yX1_find cX1_find 4 (some .int) 1 3 := ⟨(xwc15 _ (List.mem_of_getElem? (i := 19) rfl)), (xwc13 _ (List.mem_of_getElem? (i := 24) rfl)), (xwc13 _ (List.mem_of_getElem? (i := 25) rfl)), (xwc2 _ (List.mem_of_getElem? (i := 4) rfl)), (xwc13 _ (List.mem_of_getElem? (i := 26) rfl)), ⟨by decide +kernel, by decide +kernel, by decide +kernel⟩, _, _, rfl⟩
theorem mvX6_174 : LkV RX6 174 yX3_ticksLeft cX3_ticksLeft 2 (some .int) 3 1 := ⟨(xwc15 _ (List.mem_of_getElem? (i := 20) rfl)), (xwc15 _ (List.mem_of_getElem? (i := 21) rfl)), (xwc15 _ (List.mem_of_getElem? (i := 22) rfl)), (xwc2 _ (List.mem_of_getElem? (i := 6) rfl)), (xwc15 _ (List.mem_of_getElem? (i := 23) rfl)), ⟨by decide +kernel, by decide +kernel, by decide +kernel⟩, _, _, rfl⟩
theorem mvL_68 : LkV RL 68 yX6_stop cX6_stop 3 (some .int) 6 1 := ⟨(xwc15 _ (List.mem_of_getElem? (i := 24) rfl)), (xwc15 _ (List.mem_of_getElem? (i := 25) rfl)), (xwc15 _ (List.mem_of_getElem? (i := 26) rfl)), (xwc2 _ (List.mem_of_getElem? (i := 3) rfl)), (xwc15 _ (List.mem_of_getElem? (i := 27) rfl)), ⟨by decide +kernel, by decide +kernel, by decide +kernel⟩, _, _, rfl⟩
theorem mvX6_177 : LkV RX6 177 yX3_stopBatch cX3_stopBatch 3 none 3 1 := ⟨(xwc15 _ (List.mem_of_getElem? (i := 28) rfl)), (xwc15 _ (List.mem_of_getElem? (i := 29) rfl)), (xwc16 _ (List.mem_of_getElem? (i := 0) rfl)), (xwc2 _ (List.mem_of_getElem? (i := 6) rfl)), (xwc16 _ (List.mem_of_getElem? (i := 1) rfl)), ⟨by decide +kernel, by decide +kernel, by decide +kernel⟩, _, _, rfl⟩
theorem mvX3_153 : LkV RX3 153 yX0_isUnderWay cX0_isUnderWay 1 (some .boolean) 0 0 := ⟨(xwc16 _ (List.mem_of_getElem? (i := 2) rfl)), (xwc16 _ (List.mem_of_getElem? (i := 3) rfl)), (xwc16 _ (List.mem_of_getElem? (i := 4) rfl)), (xwc2 _ (List.mem_of_getElem? (i := 9) rfl)), (xwc16 _ (List.mem_of_getElem? (i := 5) rfl)), ⟨by decide +kernel, by decide +kernel, by decide +kernel⟩, _, _, rfl⟩
theorem mvX3_156 : LkV RX3 156 yX3_bringToEnd cX3_bringToEnd 4 none 3 3 := ⟨(xwc16 _ (List.mem_of_getElem? (i := 6) rfl)), (xwc16 _ (List.mem_of_getElem? (i := 7) rfl)), (xwc0 _ (List.mem_of_getElem? (i := 13) rfl)), (xwc2 _ (List.mem_of_getElem? (i := 6) rfl)), (xwc16 _ (List.mem_of_getElem? (i := 8) rfl)), ⟨by decide +kernel, by decide +kernel, by decide +kernel⟩, _, _, rfl⟩
theorem mvX3_165 : LkV RX3 165 yX3_releaseUnit cX3_releaseUnit 2 none 3 1 := ⟨(xwc16 _ (List.mem_of_getElem? (i := 9) rfl)), (xwc16 _ (List.mem_of_getElem? (i := 10) rfl)), (xwc0 _ (List.mem_of_getElem? (i := 14) rfl)), (xwc2 _ (List.mem_of_getElem? (i := 6) rfl)), (xwc16 _ (List.mem_of_getElem? (i := 11) rfl)), ⟨by decide +kernel, by decide +kernel, by decide +kernel⟩, _, _, rfl⟩
theorem mvL_72 : LkV RL 72 yX6_abort cX6_abort 2 (some .int) 6 1 := ⟨(xwc16 _ (List.mem_of_getElem? (i := 12) rfl)), (xwc16 _ (List.mem_of_getElem? (i := 13) rfl)), (xwc16 _ (List.mem_of_getElem? (i := 14) rfl)), (xwc2 _ (List.mem_of_getElem? (i := 3) rfl)), (xwc16 _ (List.mem_of_getElem? (i := 15) rfl)), ⟨by decide +kernel, by decide +kernel, by decide +kernel⟩, _, _, rfl⟩
theorem mvX6_180 : LkV RX6 180 yX0_isAtEnd cX0_isAtEnd 1 (some .boolean) 0 0 := ⟨(xwc16 _ (List.mem_of_getElem? (i := 16) rfl)), (xwc16 _ (List.mem_of_getElem? (i := 17) rfl)), (xwc16 _ (List.mem_of_getElem? (i := 18) rfl)), (xwc2 _ (List.mem_of_getElem? (i := 9) rfl)), (xwc16 _ (List.mem_of_getElem? (i := 19) rfl)), ⟨by decide +kernel, by decide +kernel, by decide +kernel⟩, _, _, rfl⟩
theorem mvX6_183 : LkV RX6 183 yX3_abortWithFollowing cX3_abortWithFollowing 5 (some .int) 3 1 := ⟨(xwc16 _ (List.mem_of_getElem? (i := 20) rfl)), (xwc16 _ (List.mem_of_getElem? (i := 21) rfl)), (xwc16 _ (List.mem_of_getElem? (i := 22) rfl)), (xwc2 _ (List.mem_of_getElem? (i := 6) rfl)), (xwc16 _ (List.mem_of_getElem? (i := 23) rfl)), ⟨by decide +kernel, by decide +kernel, by decide +kernel⟩, _, _, rfl⟩
theorem mvX3_162 : LkV RX3 162 yX0_isAtEnd cX0_isAtEnd 1 (some .boolean) 0 0 := ⟨(xwc16 _ (List.mem_of_getElem? (i := 24) rfl)), (xwc16 _ (List.mem_of_getElem? (i := 17) rfl)), (xwc16 _ (List.mem_of_getElem? (i := 18) rfl)), (xwc2 _ (List.mem_of_getElem? (i := 9) rfl)), (xwc16 _ (List.mem_of_getElem? (i := 19) rfl)), ⟨by decide +kernel, by decide +kernel, by decide +kernel⟩, _, _, rfl⟩
theorem mvL_76 : LkV RL 76 yX6_priority cX6_priority 4 (some .int) 6 2 := ⟨(xwc16 _ (List.mem_of_getElem? (i := 25) rfl)), (xwc16 _ (List.mem_of_getElem? (i := 26) rfl)), (xwc16 _ (List.mem_of_getElem? (i := 27) rfl)), (xwc2 _ (List.mem_of_getElem? (i := 3) rfl)), (xwc16 _ (List.mem_of_getElem? (i := 28) rfl)), ⟨by decide +kernel, by decide +kernel, by decide +kernel⟩, _, _, rfl⟩
theorem mvL_80 : LkV RL 80 yX6_batchInfo cX6_batchInfo 4 (some .int) 6 2 := ⟨(xwc16 _ (List.mem_of_getElem? (i := 29) rfl)), (xwc17 _ (List.mem_of_getElem? (i := 0) rfl)), (xwc17 _ (List.mem_of_getElem? (i := 1) rfl)), (xwc2 _ (List.mem_of_getElem? (i := 3) rfl)), (xwc17 _ (List.mem_of_getElem? (i := 2) rfl)), ⟨by decide +kernel, by decide +kernel, by decide +kernel⟩, _, _, rfl⟩
theorem mvX6_207 : LkV RX6 207 yX0_isUnderWay cX0_isUnderWay 1 (some .boolean) 0 0 := ⟨(xwc17 _ (List.mem_of_getElem? (i := 3) rfl)), (xwc16 _ (List.mem_of_getElem? (i := 3) rfl)), (xwc16 _ (List.mem_of_getElem? (i := 4) rfl)), (xwc2 _ (List.mem_of_getElem? (i := 9) rfl)), (xwc16 _ (List.mem_of_getElem? (i := 5) rfl)), ⟨by decide +kernel, by decide +kernel, by decide +kernel⟩, _, _, rfl⟩
theorem msX6_214 : LkS RX6 214 yX6_bitsOf cX6_bitsOf 4 (some .int) 1 := ⟨(xwc17 _ (List.mem_of_getElem? (i := 4) rfl)), (xwc17 _ (List.mem_of_getElem? (i := 5) rfl)), (xwc2 _ (List.mem_of_getElem? (i := 3) rfl)), (xwc17 _ (List.mem_of_getElem? (i := 6) rfl)), ⟨by decide +kernel, by decide +kernel, by decide +kernel⟩⟩
theorem mvL_84 : LkV RL 84 yX6_waits cX6_waits 2 (some .int) 6 1 := ⟨(xwc17 _ (List.mem_of_getElem? (i := 8) rfl)), (xwc17 _ (List.mem_of_getElem? (i := 9) rfl)), (xwc17 _ (List.mem_of_getElem? (i := 10) rfl)), (xwc2 _ (List.mem_of_getElem? (i := 3) rfl)), (xwc17 _ (List.mem_of_getElem? (i := 11) rfl)), ⟨by decide +kernel, by decide +kernel, by decide +kernel⟩, _, _, rfl⟩
theorem mvX6_218 : LkV RX6 218 yX3_reasonToWait cX3_reasonToWait 5 (some .int) 3 2 := ⟨(xwc17 _ (List.mem_of_getElem? (i := 12) rfl)), (xwc17 _ (List.mem_of_getElem? (i := 13) rfl)), (xwc17 _ (List.mem_of_getElem? (i := 14) rfl)), (xwc2 _ (List.mem_of_getElem? (i := 6) rfl)), (xwc17 _ (List.mem_of_getElem? (i := 15) rfl)), ⟨by decide +kernel, by decide +kernel, by decide +kernel⟩, _, _, rfl⟩
theorem mvX3_183 : LkV RX3 183 yX0_hasBegun cX0_hasBegun 1 (some .boolean) 0 0 := ⟨(xwc17 _ (List.mem_of_getElem? (i := 16) rfl)), (xwc17 _ (List.mem_of_getElem? (i := 17) rfl)), (xwc17 _ (List.mem_of_getElem? (i := 18) rfl)), (xwc2 _ (List.mem_of_getElem? (i := 9) rfl)), (xwc17 _ (List.mem_of_getElem? (i := 19) rfl)), ⟨by decide +kernel, by decide +kernel, by decide +kernel⟩, _, _, rfl⟩
theorem mvX3_186 : LkV RX3 186 yX3_unitFor cX3_unitFor 6 (some .int) 3 2 := ⟨(xwc17 _ (List.mem_of_getElem? (i := 20) rfl)), (xwc17 _ (List.mem_of_getElem? (i := 21) rfl)), (xwc0 _ (List.mem_of_getElem? (i := 15) rfl)), (xwc2 _ (List.mem_of_getElem? (i := 6) rfl)), (xwc17 _ (List.mem_of_getElem? (i := 22) rfl)), ⟨by decide +kernel, by decide +kernel, by decide +kernel⟩, _, _, rfl⟩
theorem mvX3_94 : LkV RX3 94 yX5_isFreeAfter cX5_isFreeAfter 2 (some .boolean) 5 1 := ⟨(xwc17 _ (List.mem_of_getElem? (i := 23) rfl)), (xwc11 _ (List.mem_of_getElem? (i := 15) rfl)), (xwc11 _ (List.mem_of_getElem? (i := 16) rfl)), (xwc2 _ (List.mem_of_getElem? (i := 8) rfl)), (xwc11 _ (List.mem_of_getElem? (i := 17) rfl)), ⟨by decide +kernel, by decide +kernel, by decide +kernel⟩, _, _, rfl⟩
theorem mvL_88 : LkV RL 88 yX6_inOrder cX6_inOrder 2 (some .int) 6 1 := ⟨(xwc17 _ (List.mem_of_getElem? (i := 24) rfl)), (xwc17 _ (List.mem_of_getElem? (i := 25) rfl)), (xwc17 _ (List.mem_of_getElem? (i := 26) rfl)), (xwc2 _ (List.mem_of_getElem? (i := 3) rfl)), (xwc17 _ (List.mem_of_getElem? (i := 27) rfl)), ⟨by decide +kernel, by decide +kernel, by decide +kernel⟩, _, _, rfl⟩
theorem mvX6_221 : LkV RX6 221 yX3_arrange cX3_arrange 2 none 3 0 := ⟨(xwc17 _ (List.mem_of_getElem? (i := 28) rfl)), (xwc17 _ (List.mem_of_getElem? (i := 29) rfl)), (xwc18 _ (List.mem_of_getElem? (i := 0) rfl)), (xwc2 _ (List.mem_of_getElem? (i := 6) rfl)), (xwc18 _ (List.mem_of_getElem? (i := 1) rfl)), ⟨by decide +kernel, by decide +kernel, by decide +kernel⟩, _, _, rfl⟩
theorem mvX3_171 : LkV RX3 171 yX3_insertInOrder cX3_insertInOrder 3 none 3 1 := ⟨(xwc18 _ (List.mem_of_getElem? (i := 2) rfl)), (xwc18 _ (List.mem_of_getElem? (i := 3) rfl)), (xwc0 _ (List.mem_of_getElem? (i := 16) rfl)), (xwc2 _ (List.mem_of_getElem? (i := 6) rfl)), (xwc18 _ (List.mem_of_getElem? (i := 4) rfl)), ⟨by decide +kernel, by decide +kernel, by decide +kernel⟩, _, _, rfl⟩
theorem mvL_92 : LkV RL 92 yX6_run cX6_run 4 (some .int) 6 1 := ⟨(xwc18 _ (List.mem_of_getElem? (i := 5) rfl)), (xwc18 _ (List.mem_of_getElem? (i := 6) rfl)), (xwc18 _ (List.mem_of_getElem? (i := 7) rfl)), (xwc2 _ (List.mem_of_getElem? (i := 3) rfl)), (xwc18 _ (List.mem_of_getElem? (i := 8) rfl)), ⟨by decide +kernel, by decide +kernel, by decide +kernel⟩, _, _, rfl⟩
theorem mvX6_234 : LkV RX6 234 yX3_passTick cX3_passTick 4 (some .boolean) 3 0 := ⟨(xwc18 _ (List.mem_of_getElem? (i := 10) rfl)), (xwc18 _ (List.mem_of_getElem? (i := 11) rfl)), (xwc18 _ (List.mem_of_getElem? (i := 12) rfl)), (xwc2 _ (List.mem_of_getElem? (i := 6) rfl)), (xwc18 _ (List.mem_of_getElem? (i := 13) rfl)), ⟨by decide +kernel, by decide +kernel, by decide +kernel⟩, _, _, rfl⟩
theorem mvX3_177 : LkV RX3 177 yX3_cleanUnits cX3_cleanUnits 3 (some .boolean) 3 0 := ⟨(xwc18 _ (List.mem_of_getElem? (i := 14) rfl)), (xwc18 _ (List.mem_of_getElem? (i := 15) rfl)), (xwc0 _ (List.mem_of_getElem? (i := 17) rfl)), (xwc2 _ (List.mem_of_getElem? (i := 6) rfl)), (xwc18 _ (List.mem_of_getElem? (i := 16) rfl)), ⟨by decide +kernel, by decide +kernel, by decide +kernel⟩, _, _, rfl⟩
theorem mvX3_180 : LkV RX3 180 yX3_moveOn cX3_moveOn 4 (some .boolean) 3 1 := ⟨(xwc18 _ (List.mem_of_getElem? (i := 17) rfl)), (xwc18 _ (List.mem_of_getElem? (i := 18) rfl)), (xwc0 _ (List.mem_of_getElem? (i := 18) rfl)), (xwc2 _ (List.mem_of_getElem? (i := 6) rfl)), (xwc18 _ (List.mem_of_getElem? (i := 19) rfl)), ⟨by decide +kernel, by decide +kernel, by decide +kernel⟩, _, _, rfl⟩
theorem mvX3_189 : LkV RX3 189 yX3_reasonToWait cX3_reasonToWait 5 (some .int) 3 2 := ⟨(xwc18 _ (List.mem_of_getElem? (i := 20) rfl)), (xwc17 _ (List.mem_of_getElem? (i := 13) rfl)), (xwc17 _ (List.mem_of_getElem? (i := 14) rfl)), (xwc2 _ (List.mem_of_getElem? (i := 6) rfl)), (xwc17 _ (List.mem_of_getElem? (i := 15) rfl)), ⟨by decide +kernel, by decide +kernel, by decide +kernel⟩, _, _, rfl⟩
theorem mvX3_192 : LkV RX3 192 yX3_takeUnit cX3_takeUnit 4 (some .boolean) 3 1 := ⟨(xwc18 _ (List.mem_of_getElem? (i := 21) rfl)), (xwc18 _ (List.mem_of_getElem? (i := 22) rfl)), (xwc0 _ (List.mem_of_getElem? (i := 19) rfl)), (xwc2 _ (List.mem_of_getElem? (i := 6) rfl)), (xwc18 _ (List.mem_of_getElem? (i := 23) rfl)), ⟨by decide +kernel, by decide +kernel, by decide +kernel⟩, _, _, rfl⟩
theorem mvX3_195 : LkV RX3 195 yX3_work cX3_work 4 none 3 1 := ⟨(xwc18 _ (List.mem_of_getElem? (i := 24) rfl)), (xwc18 _ (List.mem_of_getElem? (i := 25) rfl)), (xwc0 _ (List.mem_of_getElem? (i := 20) rfl)), (xwc2 _ (List.mem_of_getElem? (i := 6) rfl)), (xwc18 _ (List.mem_of_getElem? (i := 26) rfl)), ⟨by decide +kernel, by decide +kernel, by decide +kernel⟩, _, _, rfl⟩
theorem mvX3_198 : LkV RX3 198 yX3_endPhase cX3_endPhase 4 none 3 1 := ⟨(xwc18 _ (List.mem_of_getElem? (i := 27) rfl)), (xwc18 _ (List.mem_of_getElem? (i := 28) rfl)), (xwc0 _ (List.mem_of_getElem? (i := 21) rfl)), (xwc2 _ (List.mem_of_getElem? (i := 6) rfl)), (xwc18 _ (List.mem_of_getElem? (i := 29) rfl)), ⟨by decide +kernel, by decide +kernel, by decide +kernel⟩, _, _, rfl⟩
theorem mvL_96 : LkV RL 96 yX6_ticksTo cX6_ticksTo 5 (some .int) 6 1 := ⟨(xwc19 _ (List.mem_of_getElem? (i := 1) rfl)), (xwc19 _ (List.mem_of_getElem? (i := 2) rfl)), (xwc19 _ (List.mem_of_getElem? (i := 3) rfl)), (xwc2 _ (List.mem_of_getElem? (i := 3) rfl)), (xwc19 _ (List.mem_of_getElem? (i := 4) rfl)), ⟨by decide +kernel, by decide +kernel, by decide +kernel⟩, _, _, rfl⟩
theorem mvL_100 : LkV RL 100 yX6_count cX6_count 2 (some .int) 6 1 := ⟨(xwc19 _ (List.mem_of_getElem? (i := 5) rfl)), (xwc19 _ (List.mem_of_getElem? (i := 6) rfl)), (xwc19 _ (List.mem_of_getElem? (i := 7) rfl)), (xwc2 _ (List.mem_of_getElem? (i := 3) rfl)), (xwc19 _ (List.mem_of_getElem? (i := 8) rfl)), ⟨by decide +kernel, by decide +kernel, by decide +kernel⟩, _, _, rfl⟩
theorem mvX6_241 : LkV RX6 241 yX3_freeUnits cX3_freeUnits 3 (some .int) 3 0 := ⟨(xwc19 _ (List.mem_of_getElem? (i := 9) rfl)), (xwc19 _ (List.mem_of_getElem? (i := 10) rfl)), (xwc19 _ (List.mem_of_getElem? (i := 11) rfl)), (xwc2 _ (List.mem_of_getElem? (i := 6) rfl)), (xwc19 _ (List.mem_of_getElem? (i := 12) rfl)), ⟨by decide +kernel, by decide +kernel, by decide +kernel⟩, _, _, rfl⟩
theorem mvX6_257 : LkV RX6 257 yX3_workedTicks cX3_workedTicks 3 (some .int) 3 0 := ⟨(xwc19 _ (List.mem_of_getElem? (i := 13) rfl)), (xwc19 _ (List.mem_of_getElem? (i := 14) rfl)), (xwc19 _ (List.mem_of_getElem? (i := 15) rfl)), (xwc2 _ (List.mem_of_getElem? (i := 6) rfl)), (xwc19 _ (List.mem_of_getElem? (i := 16) rfl)), ⟨by decide +kernel, by decide +kernel, by decide +kernel⟩, _, _, rfl⟩
theorem mvX6_260 : LkV RX6 260 yX3_freePieces cX3_freePieces 3 (some .int) 3 0 := ⟨(xwc19 _ (List.mem_of_getElem? (i := 17) rfl)), (xwc19 _ (List.mem_of_getElem? (i := 18) rfl)), (xwc19 _ (List.mem_of_getElem? (i := 19) rfl)), (xwc2 _ (List.mem_of_getElem? (i := 6) rfl)), (xwc19 _ (List.mem_of_getElem? (i := 20) rfl)), ⟨by decide +kernel, by decide +kernel, by decide +kernel⟩, _, _, rfl⟩
theorem mvL_104 : LkV RL 104 yX6_event cX6_event 3 (some .int) 6 2 := ⟨(xwc19 _ (List.mem_of_getElem? (i := 21) rfl)), (xwc19 _ (List.mem_of_getElem? (i := 22) rfl)), (xwc19 _ (List.mem_of_getElem? (i := 23) rfl)), (xwc2 _ (List.mem_of_getElem? (i := 3) rfl)), (xwc19 _ (List.mem_of_getElem? (i := 24) rfl)), ⟨by decide +kernel, by decide +kernel, by decide +kernel⟩, _, _, rfl⟩
theorem mvX6_263 : LkV RX6 263 yX2_find cX2_find 4 (some .int) 2 2 := ⟨(xwc19 _ (List.mem_of_getElem? (i := 25) rfl)), (xwc19 _ (List.mem_of_getElem? (i := 26) rfl)), (xwc19 _ (List.mem_of_getElem? (i := 27) rfl)), (xwc2 _ (List.mem_of_getElem? (i := 7) rfl)), (xwc19 _ (List.mem_of_getElem? (i := 28) rfl)), ⟨by decide +kernel, by decide +kernel, by decide +kernel⟩, _, _, rfl⟩
theorem mvL_108 : LkV RL 108 yX6_undo cX6_undo 1 (some .int) 6 0 := ⟨(xwc19 _ (List.mem_of_getElem? (i := 29) rfl)), (xwc20 _ (List.mem_of_getElem? (i := 0) rfl)), (xwc20 _ (List.mem_of_getElem? (i := 1) rfl)), (xwc2 _ (List.mem_of_getElem? (i := 3) rfl)), (xwc20 _ (List.mem_of_getElem? (i := 2) rfl)), ⟨by decide +kernel, by decide +kernel, by decide +kernel⟩, _, _, rfl⟩
theorem mvL_113 : LkV RL 113 yX6_type cX6_type 2 (some .int) 6 1 := ⟨(xwc20 _ (List.mem_of_getElem? (i := 3) rfl)), (xwc20 _ (List.mem_of_getElem? (i := 4) rfl)), (xwc20 _ (List.mem_of_getElem? (i := 5) rfl)), (xwc2 _ (List.mem_of_getElem? (i := 3) rfl)), (xwc20 _ (List.mem_of_getElem? (i := 6) rfl)), ⟨by decide +kernel, by decide +kernel, by decide +kernel⟩, _, _, rfl⟩
theorem mvX6_265 : LkV RX6 265 yX4_append cX4_append 2 none 4 1 := ⟨(xwc20 _ (List.mem_of_getElem? (i := 7) rfl)), (xwc20 _ (List.mem_of_getElem? (i := 8) rfl)), (xwc20 _ (List.mem_of_getElem? (i := 9) rfl)), (xwc2 _ (List.mem_of_getElem? (i := 5) rfl)), (xwc20 _ (List.mem_of_getElem? (i := 10) rfl)), ⟨by decide +kernel, by decide +kernel, by decide +kernel⟩, _, _, rfl⟩
theorem mvL_117 : LkV RL 117 yX6_clearText cX6_clearText 2 (some .int) 6 0 := ⟨(xwc20 _ (List.mem_of_getElem? (i := 11) rfl)), (xwc20 _ (List.mem_of_getElem? (i := 12) rfl)), (xwc20 _ (List.mem_of_getElem? (i := 13) rfl)), (xwc2 _ (List.mem_of_getElem? (i := 3) rfl)), (xwc20 _ (List.mem_of_getElem? (i := 14) rfl)), ⟨by decide +kernel, by decide +kernel, by decide +kernel⟩, _, _, rfl⟩
theorem mvL_121 : LkV RL 121 yX6_fault cX6_fault 2 (some .int) 6 1 := ⟨(xwc20 _ (List.mem_of_getElem? (i := 15) rfl)), (xwc20 _ (List.mem_of_getElem? (i := 16) rfl)), (xwc20 _ (List.mem_of_getElem? (i := 17) rfl)), (xwc2 _ (List.mem_of_getElem? (i := 3) rfl)), (xwc20 _ (List.mem_of_getElem? (i := 18) rfl)), ⟨by decide +kernel, by decide +kernel, by decide +kernel⟩, _, _, rfl⟩
theorem miX7_init : LkI yX7_init cX7_init 2 0 := ⟨(xwc20 _ (List.mem_of_getElem? (i := 22) rfl)), (xwc2 _ (List.mem_of_getElem? (i := 10) rfl)), (xwc20 _ (List.mem_of_getElem? (i := 23) rfl)), ⟨by decide +kernel, by decide +kernel, by decide +kernel⟩, rfl⟩
theorem mlL_12 : Cond.methodLink RL 12 yX7_init ∈ xw := (xwc20 _ (List.mem_of_getElem? (i := 21) rfl))
theorem moX7_1 : Cond.methodLink RX7 1 objectInit ∈ xw := (xwc20 _ (List.mem_of_getElem? (i := 24) rfl))
theorem mvL_17 : LkV RL 17 yX7_unit cX7_unit 4 (some .int) 7 2 := ⟨(xwc21 _ (List.mem_of_getElem? (i := 17) rfl)), (xwc21 _ (List.mem_of_getElem? (i := 18) rfl)), (xwc21 _ (List.mem_of_getElem? (i := 19) rfl)), (xwc2 _ (List.mem_of_getElem? (i := 10) rfl)), (xwc21 _ (List.mem_of_getElem? (i := 20) rfl)), ⟨by decide +kernel, by decide +kernel, by decide +kernel⟩, _, _, rfl⟩
theorem msX7_36 : LkS RX7 36 yX7_in cX7_in 3 (some .boolean) 3 := ⟨(xwc21 _ (List.mem_of_getElem? (i := 21) rfl)), (xwc21 _ (List.mem_of_getElem? (i := 22) rfl)), (xwc2 _ (List.mem_of_getElem? (i := 10) rfl)), (xwc21 _ (List.mem_of_getElem? (i := 23) rfl)), ⟨by decide +kernel, by decide +kernel, by decide +kernel⟩⟩
theorem mvX7_44 : LkV RX7 44 yX7_keep cX7_keep 2 none 7 0 := ⟨(xwc21 _ (List.mem_of_getElem? (i := 24) rfl)), (xwc21 _ (List.mem_of_getElem? (i := 25) rfl)), (xwc0 _ (List.mem_of_getElem? (i := 22) rfl)), (xwc2 _ (List.mem_of_getElem? (i := 10) rfl)), (xwc21 _ (List.mem_of_getElem? (i := 26) rfl)), ⟨by decide +kernel, by decide +kernel, by decide +kernel⟩, _, _, rfl⟩
theorem msX7_32 : LkS RX7 32 yX7_bring cX7_bring 5 none 4 := ⟨(xwc21 _ (List.mem_of_getElem? (i := 27) rfl)), (xwc21 _ (List.mem_of_getElem? (i := 28) rfl)), (xwc2 _ (List.mem_of_getElem? (i := 10) rfl)), (xwc21 _ (List.mem_of_getElem? (i := 29) rfl)), ⟨by decide +kernel, by decide +kernel, by decide +kernel⟩⟩
theorem mvX7_47 : LkV RX7 47 yX7_putUnit cX7_putUnit 4 none 7 3 := ⟨(xwc22 _ (List.mem_of_getElem? (i := 0) rfl)), (xwc22 _ (List.mem_of_getElem? (i := 1) rfl)), (xwc0 _ (List.mem_of_getElem? (i := 23) rfl)), (xwc2 _ (List.mem_of_getElem? (i := 10) rfl)), (xwc22 _ (List.mem_of_getElem? (i := 2) rfl)), ⟨by decide +kernel, by decide +kernel, by decide +kernel⟩, _, _, rfl⟩
theorem mvL_22 : LkV RL 22 yX7_fail cX7_fail 3 (some .int) 7 1 := ⟨(xwc22 _ (List.mem_of_getElem? (i := 3) rfl)), (xwc22 _ (List.mem_of_getElem? (i := 4) rfl)), (xwc22 _ (List.mem_of_getElem? (i := 5) rfl)), (xwc2 _ (List.mem_of_getElem? (i := 10) rfl)), (xwc22 _ (List.mem_of_getElem? (i := 6) rfl)), ⟨by decide +kernel, by decide +kernel, by decide +kernel⟩, _, _, rfl⟩
theorem mvX7_68 : LkV RX7 68 yX7_isUnit cX7_isUnit 2 (some .boolean) 7 1 := ⟨(xwc22 _ (List.mem_of_getElem? (i := 7) rfl)), (xwc22 _ (List.mem_of_getElem? (i := 8) rfl)), (xwc0 _ (List.mem_of_getElem? (i := 24) rfl)), (xwc2 _ (List.mem_of_getElem? (i := 10) rfl)), (xwc22 _ (List.mem_of_getElem? (i := 9) rfl)), ⟨by decide +kernel, by decide +kernel, by decide +kernel⟩, _, _, rfl⟩
theorem mvX7_51 : LkV RX7 51 yX7_ofUnit cX7_ofUnit 3 (some .int) 7 2 := ⟨(xwc22 _ (List.mem_of_getElem? (i := 10) rfl)), (xwc22 _ (List.mem_of_getElem? (i := 11) rfl)), (xwc0 _ (List.mem_of_getElem? (i := 25) rfl)), (xwc2 _ (List.mem_of_getElem? (i := 10) rfl)), (xwc22 _ (List.mem_of_getElem? (i := 12) rfl)), ⟨by decide +kernel, by decide +kernel, by decide +kernel⟩, _, _, rfl⟩
theorem mvX7_72 : LkV RX7 72 yX7_isActive cX7_isActive 2 (some .boolean) 7 1 := ⟨(xwc22 _ (List.mem_of_getElem? (i := 13) rfl)), (xwc22 _ (List.mem_of_getElem? (i := 14) rfl)), (xwc0 _ (List.mem_of_getElem? (i := 26) rfl)), (xwc2 _ (List.mem_of_getElem? (i := 10) rfl)), (xwc22 _ (List.mem_of_getElem? (i := 15) rfl)), ⟨by decide +kernel, by decide +kernel, by decide +kernel⟩, _, _, rfl⟩
theorem mvX7_40 : LkV RX7 40 yX7_of cX7_of 3 (some .int) 7 2 := ⟨(xwc22 _ (List.mem_of_getElem? (i := 16) rfl)), (xwc22 _ (List.mem_of_getElem? (i := 17) rfl)), (xwc0 _ (List.mem_of_getElem? (i := 27) rfl)), (xwc2 _ (List.mem_of_getElem? (i := 10) rfl)), (xwc22 _ (List.mem_of_getElem? (i := 18) rfl)), ⟨by decide +kernel, by decide +kernel, by decide +kernel⟩, _, _, rfl⟩
theorem mvX7_75 : LkV RX7 75 yX7_holds cX7_holds 2 none 7 1 := ⟨(xwc22 _ (List.mem_of_getElem? (i := 19) rfl)), (xwc22 _ (List.mem_of_getElem? (i := 20) rfl)), (xwc0 _ (List.mem_of_getElem? (i := 28) rfl)), (xwc2 _ (List.mem_of_getElem? (i := 10) rfl)), (xwc22 _ (List.mem_of_getElem? (i := 21) rfl)), ⟨by decide +kernel, by decide +kernel, by decide +kernel⟩, _, _, rfl⟩
theorem mvX7_57 : LkV RX7 57 yX7_releaseShared cX7_releaseShared 3 none 7 1 := ⟨(xwc22 _ (List.mem_of_getElem? (i := 22) rfl)), (xwc22 _ (List.mem_of_getElem? (i := 23) rfl)), (xwc0 _ (List.mem_of_getElem? (i := 29) rfl)), (xwc2 _ (List.mem_of_getElem? (i := 10) rfl)), (xwc22 _ (List.mem_of_getElem? (i := 24) rfl)), ⟨by decide +kernel, by decide +kernel, by decide +kernel⟩, _, _, rfl⟩
theorem mvX7_54 : LkV RX7 54 yX7_put cX7_put 4 none 7 3 := ⟨(xwc22 _ (List.mem_of_getElem? (i := 25) rfl)), (xwc22 _ (List.mem_of_getElem? (i := 26) rfl)), (xwc1 _ (List.mem_of_getElem? (i := 0) rfl)), (xwc2 _ (List.mem_of_getElem? (i := 10) rfl)), (xwc22 _ (List.mem_of_getElem? (i := 27) rfl)), ⟨by decide +kernel, by decide +kernel, by decide +kernel⟩, _, _, rfl⟩
theorem mvX7_64 : LkV RX7 64 yX7_note cX7_note 4 none 7 2 := ⟨(xwc22 _ (List.mem_of_getElem? (i := 28) rfl)), (xwc22 _ (List.mem_of_getElem? (i := 29) rfl)), (xwc1 _ (List.mem_of_getElem? (i := 1) rfl)), (xwc2 _ (List.mem_of_getElem? (i := 10) rfl)), (xwc23 _ (List.mem_of_getElem? (i := 0) rfl)), ⟨by decide +kernel, by decide +kernel, by decide +kernel⟩, _, _, rfl⟩
theorem mvL_26 : LkV RL 26 yX7_repair cX7_repair 2 (some .int) 7 1 := ⟨(xwc23 _ (List.mem_of_getElem? (i := 1) rfl)), (xwc23 _ (List.mem_of_getElem? (i := 2) rfl)), (xwc23 _ (List.mem_of_getElem? (i := 3) rfl)), (xwc2 _ (List.mem_of_getElem? (i := 10) rfl)), (xwc23 _ (List.mem_of_getElem? (i := 4) rfl)), ⟨by decide +kernel, by decide +kernel, by decide +kernel⟩, _, _, rfl⟩
theorem mvX7_78 : LkV RX7 78 yX7_broken cX7_broken 3 (some .int) 7 0 := ⟨(xwc23 _ (List.mem_of_getElem? (i := 5) rfl)), (xwc23 _ (List.mem_of_getElem? (i := 6) rfl)), (xwc1 _ (List.mem_of_getElem? (i := 2) rfl)), (xwc2 _ (List.mem_of_getElem? (i := 10) rfl)), (xwc23 _ (List.mem_of_getElem? (i := 7) rfl)), ⟨by decide +kernel, by decide +kernel, by decide +kernel⟩, _, _, rfl⟩
theorem mvL_30 : LkV RL 30 yX7_unitInfo cX7_unitInfo 3 (some .int) 7 2 := ⟨(xwc23 _ (List.mem_of_getElem? (i := 8) rfl)), (xwc23 _ (List.mem_of_getElem? (i := 9) rfl)), (xwc23 _ (List.mem_of_getElem? (i := 10) rfl)), (xwc2 _ (List.mem_of_getElem? (i := 10) rfl)), (xwc23 _ (List.mem_of_getElem? (i := 11) rfl)), ⟨by decide +kernel, by decide +kernel, by decide +kernel⟩, _, _, rfl⟩
theorem mvX7_82 : LkV RX7 82 yX7_isFree cX7_isFree 2 (some .boolean) 7 1 := ⟨(xwc23 _ (List.mem_of_getElem? (i := 12) rfl)), (xwc23 _ (List.mem_of_getElem? (i := 13) rfl)), (xwc1 _ (List.mem_of_getElem? (i := 3) rfl)), (xwc2 _ (List.mem_of_getElem? (i := 10) rfl)), (xwc23 _ (List.mem_of_getElem? (i := 14) rfl)), ⟨by decide +kernel, by decide +kernel, by decide +kernel⟩, _, _, rfl⟩
theorem mvL_34 : LkV RL 34 yX7_shared cX7_shared 2 (some .int) 7 1 := ⟨(xwc23 _ (List.mem_of_getElem? (i := 15) rfl)), (xwc23 _ (List.mem_of_getElem? (i := 16) rfl)), (xwc23 _ (List.mem_of_getElem? (i := 17) rfl)), (xwc2 _ (List.mem_of_getElem? (i := 10) rfl)), (xwc23 _ (List.mem_of_getElem? (i := 18) rfl)), ⟨by decide +kernel, by decide +kernel, by decide +kernel⟩, _, _, rfl⟩
theorem mvL_38 : LkV RL 38 yX7_setCleaning cX7_setCleaning 3 (some .int) 7 1 := ⟨(xwc23 _ (List.mem_of_getElem? (i := 19) rfl)), (xwc23 _ (List.mem_of_getElem? (i := 20) rfl)), (xwc23 _ (List.mem_of_getElem? (i := 21) rfl)), (xwc2 _ (List.mem_of_getElem? (i := 10) rfl)), (xwc23 _ (List.mem_of_getElem? (i := 22) rfl)), ⟨by decide +kernel, by decide +kernel, by decide +kernel⟩, _, _, rfl⟩
theorem mvL_42 : LkV RL 42 yX7_recipe cX7_recipe 5 (some .int) 7 1 := ⟨(xwc23 _ (List.mem_of_getElem? (i := 23) rfl)), (xwc23 _ (List.mem_of_getElem? (i := 24) rfl)), (xwc23 _ (List.mem_of_getElem? (i := 25) rfl)), (xwc2 _ (List.mem_of_getElem? (i := 10) rfl)), (xwc23 _ (List.mem_of_getElem? (i := 26) rfl)), ⟨by decide +kernel, by decide +kernel, by decide +kernel⟩, _, _, rfl⟩
theorem msX7_125 : LkS RX7 125 yX7_isRecipe cX7_isRecipe 1 (some .boolean) 1 := ⟨(xwc23 _ (List.mem_of_getElem? (i := 27) rfl)), (xwc23 _ (List.mem_of_getElem? (i := 28) rfl)), (xwc2 _ (List.mem_of_getElem? (i := 10) rfl)), (xwc23 _ (List.mem_of_getElem? (i := 29) rfl)), ⟨by decide +kernel, by decide +kernel, by decide +kernel⟩⟩
theorem mvX7_128 : LkV RX7 128 yX7_readText cX7_readText 3 (some .int) 7 0 := ⟨(xwc24 _ (List.mem_of_getElem? (i := 0) rfl)), (xwc24 _ (List.mem_of_getElem? (i := 1) rfl)), (xwc1 _ (List.mem_of_getElem? (i := 4) rfl)), (xwc2 _ (List.mem_of_getElem? (i := 10) rfl)), (xwc24 _ (List.mem_of_getElem? (i := 2) rfl)), ⟨by decide +kernel, by decide +kernel, by decide +kernel⟩, _, _, rfl⟩
theorem mvX7_122 : LkV RX7 122 yX7_readPhase cX7_readPhase 6 (some .boolean) 7 1 := ⟨(xwc24 _ (List.mem_of_getElem? (i := 3) rfl)), (xwc24 _ (List.mem_of_getElem? (i := 4) rfl)), (xwc1 _ (List.mem_of_getElem? (i := 5) rfl)), (xwc2 _ (List.mem_of_getElem? (i := 10) rfl)), (xwc24 _ (List.mem_of_getElem? (i := 5) rfl)), ⟨by decide +kernel, by decide +kernel, by decide +kernel⟩, _, _, rfl⟩
theorem mvX7_104 : LkV RX7 104 yX7_here cX7_here 1 (some .int) 7 0 := ⟨(xwc24 _ (List.mem_of_getElem? (i := 6) rfl)), (xwc24 _ (List.mem_of_getElem? (i := 7) rfl)), (xwc1 _ (List.mem_of_getElem? (i := 6) rfl)), (xwc2 _ (List.mem_of_getElem? (i := 10) rfl)), (xwc24 _ (List.mem_of_getElem? (i := 8) rfl)), ⟨by decide +kernel, by decide +kernel, by decide +kernel⟩, _, _, rfl⟩
theorem msX7_111 : LkS RX7 111 yX7_kindBy cX7_kindBy 1 (some .int) 1 := ⟨(xwc24 _ (List.mem_of_getElem? (i := 9) rfl)), (xwc24 _ (List.mem_of_getElem? (i := 10) rfl)), (xwc2 _ (List.mem_of_getElem? (i := 10) rfl)), (xwc24 _ (List.mem_of_getElem? (i := 11) rfl)), ⟨by decide +kernel, by decide +kernel, by decide +kernel⟩⟩
theorem mvX7_107 : LkV RX7 107 yX7_isFault cX7_isFault 1 (some .boolean) 7 0 := ⟨(xwc24 _ (List.mem_of_getElem? (i := 12) rfl)), (xwc24 _ (List.mem_of_getElem? (i := 13) rfl)), (xwc1 _ (List.mem_of_getElem? (i := 7) rfl)), (xwc2 _ (List.mem_of_getElem? (i := 10) rfl)), (xwc24 _ (List.mem_of_getElem? (i := 14) rfl)), ⟨by decide +kernel, by decide +kernel, by decide +kernel⟩, _, _, rfl⟩
theorem mvX7_115 : LkV RX7 115 yX7_readNumber cX7_readNumber 4 (some .boolean) 7 2 := ⟨(xwc24 _ (List.mem_of_getElem? (i := 15) rfl)), (xwc24 _ (List.mem_of_getElem? (i := 16) rfl)), (xwc1 _ (List.mem_of_getElem? (i := 8) rfl)), (xwc2 _ (List.mem_of_getElem? (i := 10) rfl)), (xwc24 _ (List.mem_of_getElem? (i := 17) rfl)), ⟨by decide +kernel, by decide +kernel, by decide +kernel⟩, _, _, rfl⟩
theorem mvX7_119 : LkV RX7 119 yX7_takes cX7_takes 3 (some .boolean) 7 1 := ⟨(xwc24 _ (List.mem_of_getElem? (i := 18) rfl)), (xwc24 _ (List.mem_of_getElem? (i := 19) rfl)), (xwc1 _ (List.mem_of_getElem? (i := 9) rfl)), (xwc2 _ (List.mem_of_getElem? (i := 10) rfl)), (xwc24 _ (List.mem_of_getElem? (i := 20) rfl)), ⟨by decide +kernel, by decide +kernel, by decide +kernel⟩, _, _, rfl⟩
theorem mvL_46 : LkV RL 46 yX7_versions cX7_versions 2 (some .int) 7 1 := ⟨(xwc24 _ (List.mem_of_getElem? (i := 21) rfl)), (xwc24 _ (List.mem_of_getElem? (i := 22) rfl)), (xwc24 _ (List.mem_of_getElem? (i := 23) rfl)), (xwc2 _ (List.mem_of_getElem? (i := 10) rfl)), (xwc24 _ (List.mem_of_getElem? (i := 24) rfl)), ⟨by decide +kernel, by decide +kernel, by decide +kernel⟩, _, _, rfl⟩
theorem mvL_51 : LkV RL 51 yX7_phase cX7_phase 5 (some .int) 7 4 := ⟨(xwc24 _ (List.mem_of_getElem? (i := 25) rfl)), (xwc24 _ (List.mem_of_getElem? (i := 26) rfl)), (xwc24 _ (List.mem_of_getElem? (i := 27) rfl)), (xwc2 _ (List.mem_of_getElem? (i := 10) rfl)), (xwc24 _ (List.mem_of_getElem? (i := 28) rfl)), ⟨by decide +kernel, by decide +kernel, by decide +kernel⟩, _, _, rfl⟩
theorem mvX7_146 : LkV RX7 146 yX7_phasesOf cX7_phasesOf 3 (some .int) 7 2 := ⟨(xwc24 _ (List.mem_of_getElem? (i := 29) rfl)), (xwc25 _ (List.mem_of_getElem? (i := 0) rfl)), (xwc1 _ (List.mem_of_getElem? (i := 10) rfl)), (xwc2 _ (List.mem_of_getElem? (i := 10) rfl)), (xwc25 _ (List.mem_of_getElem? (i := 1) rfl)), ⟨by decide +kernel, by decide +kernel, by decide +kernel⟩, _, _, rfl⟩
theorem mvX7_85 : LkV RX7 85 yX7_phaseIn cX7_phaseIn 4 (some .int) 7 3 := ⟨(xwc25 _ (List.mem_of_getElem? (i := 2) rfl)), (xwc25 _ (List.mem_of_getElem? (i := 3) rfl)), (xwc1 _ (List.mem_of_getElem? (i := 11) rfl)), (xwc2 _ (List.mem_of_getElem? (i := 10) rfl)), (xwc25 _ (List.mem_of_getElem? (i := 4) rfl)), ⟨by decide +kernel, by decide +kernel, by decide +kernel⟩, _, _, rfl⟩
theorem msX7_149 : LkS RX7 149 yX7_partOf cX7_partOf 2 (some .int) 2 := ⟨(xwc25 _ (List.mem_of_getElem? (i := 5) rfl)), (xwc25 _ (List.mem_of_getElem? (i := 6) rfl)), (xwc2 _ (List.mem_of_getElem? (i := 10) rfl)), (xwc25 _ (List.mem_of_getElem? (i := 7) rfl)), ⟨by decide +kernel, by decide +kernel, by decide +kernel⟩⟩
theorem msX7_131 : LkS RX7 131 yX7_kindOf cX7_kindOf 1 (some .int) 1 := ⟨(xwc25 _ (List.mem_of_getElem? (i := 8) rfl)), (xwc25 _ (List.mem_of_getElem? (i := 9) rfl)), (xwc2 _ (List.mem_of_getElem? (i := 10) rfl)), (xwc25 _ (List.mem_of_getElem? (i := 10) rfl)), ⟨by decide +kernel, by decide +kernel, by decide +kernel⟩⟩
theorem msX7_134 : LkS RX7 134 yX7_durationOf cX7_durationOf 1 (some .int) 1 := ⟨(xwc25 _ (List.mem_of_getElem? (i := 11) rfl)), (xwc25 _ (List.mem_of_getElem? (i := 12) rfl)), (xwc2 _ (List.mem_of_getElem? (i := 10) rfl)), (xwc25 _ (List.mem_of_getElem? (i := 13) rfl)), ⟨by decide +kernel, by decide +kernel, by decide +kernel⟩⟩
theorem msX7_137 : LkS RX7 137 yX7_sharedOf cX7_sharedOf 1 (some .int) 1 := ⟨(xwc25 _ (List.mem_of_getElem? (i := 14) rfl)), (xwc25 _ (List.mem_of_getElem? (i := 15) rfl)), (xwc2 _ (List.mem_of_getElem? (i := 10) rfl)), (xwc25 _ (List.mem_of_getElem? (i := 16) rfl)), ⟨by decide +kernel, by decide +kernel, by decide +kernel⟩⟩
theorem msX7_140 : LkS RX7 140 yX7_yieldOf cX7_yieldOf 1 (some .int) 1 := ⟨(xwc25 _ (List.mem_of_getElem? (i := 17) rfl)), (xwc25 _ (List.mem_of_getElem? (i := 18) rfl)), (xwc2 _ (List.mem_of_getElem? (i := 10) rfl)), (xwc25 _ (List.mem_of_getElem? (i := 19) rfl)), ⟨by decide +kernel, by decide +kernel, by decide +kernel⟩⟩
theorem msX7_143 : LkS RX7 143 yX7_markOf cX7_markOf 1 (some .int) 1 := ⟨(xwc25 _ (List.mem_of_getElem? (i := 20) rfl)), (xwc25 _ (List.mem_of_getElem? (i := 21) rfl)), (xwc2 _ (List.mem_of_getElem? (i := 10) rfl)), (xwc25 _ (List.mem_of_getElem? (i := 22) rfl)), ⟨by decide +kernel, by decide +kernel, by decide +kernel⟩⟩
theorem mvL_55 : LkV RL 55 yX7_batch cX7_batch 7 (some .int) 7 4 := ⟨(xwc25 _ (List.mem_of_getElem? (i := 23) rfl)), (xwc25 _ (List.mem_of_getElem? (i := 24) rfl)), (xwc25 _ (List.mem_of_getElem? (i := 25) rfl)), (xwc2 _ (List.mem_of_getElem? (i := 10) rfl)), (xwc25 _ (List.mem_of_getElem? (i := 26) rfl)), ⟨by decide +kernel, by decide +kernel, by decide +kernel⟩, _, _, rfl⟩
theorem mvX7_152 : LkV RX7 152 yX7_isBatch cX7_isBatch 2 (some .boolean) 7 1 := ⟨(xwc25 _ (List.mem_of_getElem? (i := 27) rfl)), (xwc25 _ (List.mem_of_getElem? (i := 28) rfl)), (xwc1 _ (List.mem_of_getElem? (i := 12) rfl)), (xwc2 _ (List.mem_of_getElem? (i := 10) rfl)), (xwc25 _ (List.mem_of_getElem? (i := 29) rfl)), ⟨by decide +kernel, by decide +kernel, by decide +kernel⟩, _, _, rfl⟩
theorem msX7_155 : LkS RX7 155 yJxf58ca_floatToIntBits_5c35a cJxf58ca_floatToIntBits_5c35a 1 (some .int) 1 := ⟨(xwc26 _ (List.mem_of_getElem? (i := 0) rfl)), (xwc26 _ (List.mem_of_getElem? (i := 1) rfl)), (xwc2 _ (List.mem_of_getElem? (i := 12) rfl)), (xwc26 _ (List.mem_of_getElem? (i := 2) rfl)), ⟨by decide +kernel, by decide +kernel, by decide +kernel⟩⟩
theorem msJxf58ca_59 : LkS RJxf58ca 59 yJxf58ca_isNaN_12338 cJxf58ca_isNaN_12338 1 (some .boolean) 1 := ⟨(xwc26 _ (List.mem_of_getElem? (i := 3) rfl)), (xwc26 _ (List.mem_of_getElem? (i := 4) rfl)), (xwc2 _ (List.mem_of_getElem? (i := 12) rfl)), (xwc26 _ (List.mem_of_getElem? (i := 5) rfl)), ⟨by decide +kernel, by decide +kernel, by decide +kernel⟩⟩
theorem mvL_59 : LkV RL 59 yX7_start cX7_start 2 (some .int) 7 1 := ⟨(xwc26 _ (List.mem_of_getElem? (i := 10) rfl)), (xwc26 _ (List.mem_of_getElem? (i := 11) rfl)), (xwc26 _ (List.mem_of_getElem? (i := 12) rfl)), (xwc2 _ (List.mem_of_getElem? (i := 10) rfl)), (xwc26 _ (List.mem_of_getElem? (i := 13) rfl)), ⟨by decide +kernel, by decide +kernel, by decide +kernel⟩, _, _, rfl⟩
theorem mvX7_161 : LkV RX7 161 yX7_many cX7_many 4 (some .int) 7 1 := ⟨(xwc26 _ (List.mem_of_getElem? (i := 14) rfl)), (xwc26 _ (List.mem_of_getElem? (i := 15) rfl)), (xwc1 _ (List.mem_of_getElem? (i := 13) rfl)), (xwc2 _ (List.mem_of_getElem? (i := 10) rfl)), (xwc26 _ (List.mem_of_getElem? (i := 16) rfl)), ⟨by decide +kernel, by decide +kernel, by decide +kernel⟩, _, _, rfl⟩
theorem mvL_63 : LkV RL 63 yX7_hold cX7_hold 2 (some .int) 7 1 := ⟨(xwc26 _ (List.mem_of_getElem? (i := 17) rfl)), (xwc26 _ (List.mem_of_getElem? (i := 18) rfl)), (xwc26 _ (List.mem_of_getElem? (i := 19) rfl)), (xwc2 _ (List.mem_of_getElem? (i := 10) rfl)), (xwc26 _ (List.mem_of_getElem? (i := 20) rfl)), ⟨by decide +kernel, by decide +kernel, by decide +kernel⟩, _, _, rfl⟩
theorem mvL_67 : LkV RL 67 yX7_restart cX7_restart 3 (some .int) 7 1 := ⟨(xwc26 _ (List.mem_of_getElem? (i := 21) rfl)), (xwc26 _ (List.mem_of_getElem? (i := 22) rfl)), (xwc26 _ (List.mem_of_getElem? (i := 23) rfl)), (xwc2 _ (List.mem_of_getElem? (i := 10) rfl)), (xwc26 _ (List.mem_of_getElem? (i := 24) rfl)), ⟨by decide +kernel, by decide +kernel, by decide +kernel⟩, _, _, rfl⟩
theorem mvX7_164 : LkV RX7 164 yX7_phaseNow cX7_phaseNow 2 (some .int) 7 1 := ⟨(xwc26 _ (List.mem_of_getElem? (i := 25) rfl)), (xwc26 _ (List.mem_of_getElem? (i := 26) rfl)), (xwc1 _ (List.mem_of_getElem? (i := 14) rfl)), (xwc2 _ (List.mem_of_getElem? (i := 10) rfl)), (xwc26 _ (List.mem_of_getElem? (i := 27) rfl)), ⟨by decide +kernel, by decide +kernel, by decide +kernel⟩, _, _, rfl⟩
theorem mvX7_89 : LkV RX7 89 yX7_phaseAt cX7_phaseAt 3 (some .int) 7 2 := ⟨(xwc26 _ (List.mem_of_getElem? (i := 28) rfl)), (xwc26 _ (List.mem_of_getElem? (i := 29) rfl)), (xwc1 _ (List.mem_of_getElem? (i := 15) rfl)), (xwc2 _ (List.mem_of_getElem? (i := 10) rfl)), (xwc27 _ (List.mem_of_getElem? (i := 0) rfl)), ⟨by decide +kernel, by decide +kernel, by decide +kernel⟩, _, _, rfl⟩
theorem mvX7_167 : LkV RX7 167 yX7_left cX7_left 2 (some .int) 7 1 := ⟨(xwc27 _ (List.mem_of_getElem? (i := 1) rfl)), (xwc27 _ (List.mem_of_getElem? (i := 2) rfl)), (xwc1 _ (List.mem_of_getElem? (i := 16) rfl)), (xwc2 _ (List.mem_of_getElem? (i := 10) rfl)), (xwc27 _ (List.mem_of_getElem? (i := 3) rfl)), ⟨by decide +kernel, by decide +kernel, by decide +kernel⟩, _, _, rfl⟩
theorem mvL_71 : LkV RL 71 yX7_stop cX7_stop 2 (some .int) 7 1 := ⟨(xwc27 _ (List.mem_of_getElem? (i := 4) rfl)), (xwc27 _ (List.mem_of_getElem? (i := 5) rfl)), (xwc27 _ (List.mem_of_getElem? (i := 6) rfl)), (xwc2 _ (List.mem_of_getElem? (i := 10) rfl)), (xwc27 _ (List.mem_of_getElem? (i := 7) rfl)), ⟨by decide +kernel, by decide +kernel, by decide +kernel⟩, _, _, rfl⟩
theorem mvX7_170 : LkV RX7 170 yX7_endsBy cX7_endsBy 4 none 7 3 := ⟨(xwc27 _ (List.mem_of_getElem? (i := 8) rfl)), (xwc27 _ (List.mem_of_getElem? (i := 9) rfl)), (xwc1 _ (List.mem_of_getElem? (i := 17) rfl)), (xwc2 _ (List.mem_of_getElem? (i := 10) rfl)), (xwc27 _ (List.mem_of_getElem? (i := 10) rfl)), ⟨by decide +kernel, by decide +kernel, by decide +kernel⟩, _, _, rfl⟩
theorem mvX7_61 : LkV RX7 61 yX7_releaseUnit cX7_releaseUnit 3 none 7 1 := ⟨(xwc27 _ (List.mem_of_getElem? (i := 11) rfl)), (xwc27 _ (List.mem_of_getElem? (i := 12) rfl)), (xwc1 _ (List.mem_of_getElem? (i := 18) rfl)), (xwc2 _ (List.mem_of_getElem? (i := 10) rfl)), (xwc27 _ (List.mem_of_getElem? (i := 13) rfl)), ⟨by decide +kernel, by decide +kernel, by decide +kernel⟩, _, _, rfl⟩
theorem mvL_75 : LkV RL 75 yX7_abort cX7_abort 6 (some .int) 7 1 := ⟨(xwc27 _ (List.mem_of_getElem? (i := 14) rfl)), (xwc27 _ (List.mem_of_getElem? (i := 15) rfl)), (xwc27 _ (List.mem_of_getElem? (i := 16) rfl)), (xwc2 _ (List.mem_of_getElem? (i := 10) rfl)), (xwc27 _ (List.mem_of_getElem? (i := 17) rfl)), ⟨by decide +kernel, by decide +kernel, by decide +kernel⟩, _, _, rfl⟩
theorem mvL_79 : LkV RL 79 yX7_priority cX7_priority 4 (some .int) 7 2 := ⟨(xwc27 _ (List.mem_of_getElem? (i := 18) rfl)), (xwc27 _ (List.mem_of_getElem? (i := 19) rfl)), (xwc27 _ (List.mem_of_getElem? (i := 20) rfl)), (xwc2 _ (List.mem_of_getElem? (i := 10) rfl)), (xwc27 _ (List.mem_of_getElem? (i := 21) rfl)), ⟨by decide +kernel, by decide +kernel, by decide +kernel⟩, _, _, rfl⟩
theorem mvL_83 : LkV RL 83 yX7_batchInfo cX7_batchInfo 3 (some .int) 7 2 := ⟨(xwc27 _ (List.mem_of_getElem? (i := 22) rfl)), (xwc27 _ (List.mem_of_getElem? (i := 23) rfl)), (xwc27 _ (List.mem_of_getElem? (i := 24) rfl)), (xwc2 _ (List.mem_of_getElem? (i := 10) rfl)), (xwc27 _ (List.mem_of_getElem? (i := 25) rfl)), ⟨by decide +kernel, by decide +kernel, by decide +kernel⟩, _, _, rfl⟩
theorem mvX7_177 : LkV RX7 177 yX7_batchOf cX7_batchOf 3 (some .int) 7 2 := ⟨(xwc27 _ (List.mem_of_getElem? (i := 26) rfl)), (xwc27 _ (List.mem_of_getElem? (i := 27) rfl)), (xwc1 _ (List.mem_of_getElem? (i := 19) rfl)), (xwc2 _ (List.mem_of_getElem? (i := 10) rfl)), (xwc27 _ (List.mem_of_getElem? (i := 28) rfl)), ⟨by decide +kernel, by decide +kernel, by decide +kernel⟩, _, _, rfl⟩
theorem mvL_87 : LkV RL 87 yX7_waits cX7_waits 3 (some .int) 7 1 := ⟨(xwc28 _ (List.mem_of_getElem? (i := 2) rfl)), (xwc28 _ (List.mem_of_getElem? (i := 3) rfl)), (xwc28 _ (List.mem_of_getElem? (i := 4) rfl)), (xwc2 _ (List.mem_of_getElem? (i := 10) rfl)), (xwc28 _ (List.mem_of_getElem? (i := 5) rfl)), ⟨by decide +kernel, by decide +kernel, by decide +kernel⟩, _, _, rfl⟩
theorem mvX7_189 : LkV RX7 189 yX7_clean cX7_clean 2 none 7 0 := ⟨(xwc28 _ (List.mem_of_getElem? (i := 6) rfl)), (xwc28 _ (List.mem_of_getElem? (i := 7) rfl)), (xwc1 _ (List.mem_of_getElem? (i := 20) rfl)), (xwc2 _ (List.mem_of_getElem? (i := 10) rfl)), (xwc28 _ (List.mem_of_getElem? (i := 8) rfl)), ⟨by decide +kernel, by decide +kernel, by decide +kernel⟩, _, _, rfl⟩
theorem mvX7_192 : LkV RX7 192 yX7_reason cX7_reason 2 (some .int) 7 1 := ⟨(xwc28 _ (List.mem_of_getElem? (i := 9) rfl)), (xwc28 _ (List.mem_of_getElem? (i := 10) rfl)), (xwc1 _ (List.mem_of_getElem? (i := 21) rfl)), (xwc2 _ (List.mem_of_getElem? (i := 10) rfl)), (xwc28 _ (List.mem_of_getElem? (i := 11) rfl)), ⟨by decide +kernel, by decide +kernel, by decide +kernel⟩, _, _, rfl⟩
theorem mvX7_180 : LkV RX7 180 yX7_waitsForOther cX7_waitsForOther 3 (some .boolean) 7 1 := ⟨(xwc28 _ (List.mem_of_getElem? (i := 12) rfl)), (xwc28 _ (List.mem_of_getElem? (i := 13) rfl)), (xwc1 _ (List.mem_of_getElem? (i := 22) rfl)), (xwc2 _ (List.mem_of_getElem? (i := 10) rfl)), (xwc28 _ (List.mem_of_getElem? (i := 14) rfl)), ⟨by decide +kernel, by decide +kernel, by decide +kernel⟩, _, _, rfl⟩
theorem mvX7_183 : LkV RX7 183 yX7_unitFor cX7_unitFor 4 (some .int) 7 2 := ⟨(xwc28 _ (List.mem_of_getElem? (i := 15) rfl)), (xwc28 _ (List.mem_of_getElem? (i := 16) rfl)), (xwc1 _ (List.mem_of_getElem? (i := 23) rfl)), (xwc2 _ (List.mem_of_getElem? (i := 10) rfl)), (xwc28 _ (List.mem_of_getElem? (i := 17) rfl)), ⟨by decide +kernel, by decide +kernel, by decide +kernel⟩, _, _, rfl⟩
theorem mvX7_186 : LkV RX7 186 yX7_waitsForShared cX7_waitsForShared 3 (some .boolean) 7 1 := ⟨(xwc28 _ (List.mem_of_getElem? (i := 18) rfl)), (xwc28 _ (List.mem_of_getElem? (i := 19) rfl)), (xwc1 _ (List.mem_of_getElem? (i := 24) rfl)), (xwc2 _ (List.mem_of_getElem? (i := 10) rfl)), (xwc28 _ (List.mem_of_getElem? (i := 20) rfl)), ⟨by decide +kernel, by decide +kernel, by decide +kernel⟩, _, _, rfl⟩
theorem mvL_91 : LkV RL 91 yX7_inOrder cX7_inOrder 2 (some .int) 7 1 := ⟨(xwc28 _ (List.mem_of_getElem? (i := 21) rfl)), (xwc28 _ (List.mem_of_getElem? (i := 22) rfl)), (xwc28 _ (List.mem_of_getElem? (i := 23) rfl)), (xwc2 _ (List.mem_of_getElem? (i := 10) rfl)), (xwc28 _ (List.mem_of_getElem? (i := 24) rfl)), ⟨by decide +kernel, by decide +kernel, by decide +kernel⟩, _, _, rfl⟩
theorem mvX7_195 : LkV RX7 195 yX7_sort cX7_sort 4 (some .int) 7 0 := ⟨(xwc28 _ (List.mem_of_getElem? (i := 25) rfl)), (xwc28 _ (List.mem_of_getElem? (i := 26) rfl)), (xwc1 _ (List.mem_of_getElem? (i := 25) rfl)), (xwc2 _ (List.mem_of_getElem? (i := 10) rfl)), (xwc28 _ (List.mem_of_getElem? (i := 27) rfl)), ⟨by decide +kernel, by decide +kernel, by decide +kernel⟩, _, _, rfl⟩
theorem mvL_95 : LkV RL 95 yX7_run cX7_run 4 (some .int) 7 1 := ⟨(xwc28 _ (List.mem_of_getElem? (i := 28) rfl)), (xwc28 _ (List.mem_of_getElem? (i := 29) rfl)), (xwc29 _ (List.mem_of_getElem? (i := 0) rfl)), (xwc2 _ (List.mem_of_getElem? (i := 10) rfl)), (xwc29 _ (List.mem_of_getElem? (i := 1) rfl)), ⟨by decide +kernel, by decide +kernel, by decide +kernel⟩, _, _, rfl⟩
theorem mvX7_206 : LkV RX7 206 yX7_tick cX7_tick 3 none 7 0 := ⟨(xwc29 _ (List.mem_of_getElem? (i := 3) rfl)), (xwc29 _ (List.mem_of_getElem? (i := 4) rfl)), (xwc1 _ (List.mem_of_getElem? (i := 26) rfl)), (xwc2 _ (List.mem_of_getElem? (i := 10) rfl)), (xwc29 _ (List.mem_of_getElem? (i := 5) rfl)), ⟨by decide +kernel, by decide +kernel, by decide +kernel⟩, _, _, rfl⟩
theorem mvX7_202 : LkV RX7 202 yX7_work cX7_work 4 none 7 1 := ⟨(xwc29 _ (List.mem_of_getElem? (i := 6) rfl)), (xwc29 _ (List.mem_of_getElem? (i := 7) rfl)), (xwc1 _ (List.mem_of_getElem? (i := 27) rfl)), (xwc2 _ (List.mem_of_getElem? (i := 10) rfl)), (xwc29 _ (List.mem_of_getElem? (i := 8) rfl)), ⟨by decide +kernel, by decide +kernel, by decide +kernel⟩, _, _, rfl⟩
theorem mvX7_199 : LkV RX7 199 yX7_ends cX7_ends 5 none 7 1 := ⟨(xwc29 _ (List.mem_of_getElem? (i := 9) rfl)), (xwc29 _ (List.mem_of_getElem? (i := 10) rfl)), (xwc1 _ (List.mem_of_getElem? (i := 28) rfl)), (xwc2 _ (List.mem_of_getElem? (i := 10) rfl)), (xwc29 _ (List.mem_of_getElem? (i := 11) rfl)), ⟨by decide +kernel, by decide +kernel, by decide +kernel⟩, _, _, rfl⟩
theorem mvL_99 : LkV RL 99 yX7_ticksTo cX7_ticksTo 4 (some .int) 7 1 := ⟨(xwc29 _ (List.mem_of_getElem? (i := 13) rfl)), (xwc29 _ (List.mem_of_getElem? (i := 14) rfl)), (xwc29 _ (List.mem_of_getElem? (i := 15) rfl)), (xwc2 _ (List.mem_of_getElem? (i := 10) rfl)), (xwc29 _ (List.mem_of_getElem? (i := 16) rfl)), ⟨by decide +kernel, by decide +kernel, by decide +kernel⟩, _, _, rfl⟩
theorem mvL_103 : LkV RL 103 yX7_count cX7_count 2 (some .int) 7 1 := ⟨(xwc29 _ (List.mem_of_getElem? (i := 17) rfl)), (xwc29 _ (List.mem_of_getElem? (i := 18) rfl)), (xwc29 _ (List.mem_of_getElem? (i := 19) rfl)), (xwc2 _ (List.mem_of_getElem? (i := 10) rfl)), (xwc29 _ (List.mem_of_getElem? (i := 20) rfl)), ⟨by decide +kernel, by decide +kernel, by decide +kernel⟩, _, _, rfl⟩
theorem mvX7_209 : LkV RX7 209 yX7_freeUnits cX7_freeUnits 3 (some .int) 7 0 := ⟨(xwc29 _ (List.mem_of_getElem? (i := 21) rfl)), (xwc29 _ (List.mem_of_getElem? (i := 22) rfl)), (xwc1 _ (List.mem_of_getElem? (i := 29) rfl)), (xwc2 _ (List.mem_of_getElem? (i := 10) rfl)), (xwc29 _ (List.mem_of_getElem? (i := 23) rfl)), ⟨by decide +kernel, by decide +kernel, by decide +kernel⟩, _, _, rfl⟩
theorem mvX7_212 : LkV RX7 212 yX7_worked cX7_worked 3 (some .int) 7 0 := ⟨(xwc29 _ (List.mem_of_getElem? (i := 24) rfl)), (xwc29 _ (List.mem_of_getElem? (i := 25) rfl)), (xwc2 _ (List.mem_of_getElem? (i := 0) rfl)), (xwc2 _ (List.mem_of_getElem? (i := 10) rfl)), (xwc29 _ (List.mem_of_getElem? (i := 26) rfl)), ⟨by decide +kernel, by decide +kernel, by decide +kernel⟩, _, _, rfl⟩
theorem mvX7_215 : LkV RX7 215 yX7_freeShared cX7_freeShared 3 (some .int) 7 0 := ⟨(xwc29 _ (List.mem_of_getElem? (i := 27) rfl)), (xwc29 _ (List.mem_of_getElem? (i := 28) rfl)), (xwc2 _ (List.mem_of_getElem? (i := 1) rfl)), (xwc2 _ (List.mem_of_getElem? (i := 10) rfl)), (xwc29 _ (List.mem_of_getElem? (i := 29) rfl)), ⟨by decide +kernel, by decide +kernel, by decide +kernel⟩, _, _, rfl⟩
theorem mvL_107 : LkV RL 107 yX7_event cX7_event 3 (some .int) 7 2 := ⟨(xwc30 _ (List.mem_of_getElem? (i := 0) rfl)), (xwc30 _ (List.mem_of_getElem? (i := 1) rfl)), (xwc30 _ (List.mem_of_getElem? (i := 2) rfl)), (xwc2 _ (List.mem_of_getElem? (i := 10) rfl)), (xwc30 _ (List.mem_of_getElem? (i := 3) rfl)), ⟨by decide +kernel, by decide +kernel, by decide +kernel⟩, _, _, rfl⟩
theorem mvL_112 : LkV RL 112 yX7_undo cX7_undo 1 (some .int) 7 0 := ⟨(xwc30 _ (List.mem_of_getElem? (i := 4) rfl)), (xwc30 _ (List.mem_of_getElem? (i := 5) rfl)), (xwc30 _ (List.mem_of_getElem? (i := 6) rfl)), (xwc2 _ (List.mem_of_getElem? (i := 10) rfl)), (xwc30 _ (List.mem_of_getElem? (i := 7) rfl)), ⟨by decide +kernel, by decide +kernel, by decide +kernel⟩, _, _, rfl⟩
theorem mvL_116 : LkV RL 116 yX7_type cX7_type 2 (some .int) 7 1 := ⟨(xwc30 _ (List.mem_of_getElem? (i := 8) rfl)), (xwc30 _ (List.mem_of_getElem? (i := 9) rfl)), (xwc30 _ (List.mem_of_getElem? (i := 10) rfl)), (xwc2 _ (List.mem_of_getElem? (i := 10) rfl)), (xwc30 _ (List.mem_of_getElem? (i := 11) rfl)), ⟨by decide +kernel, by decide +kernel, by decide +kernel⟩, _, _, rfl⟩
theorem mvL_120 : LkV RL 120 yX7_clearText cX7_clearText 2 (some .int) 7 0 := ⟨(xwc30 _ (List.mem_of_getElem? (i := 12) rfl)), (xwc30 _ (List.mem_of_getElem? (i := 13) rfl)), (xwc30 _ (List.mem_of_getElem? (i := 14) rfl)), (xwc2 _ (List.mem_of_getElem? (i := 10) rfl)), (xwc30 _ (List.mem_of_getElem? (i := 15) rfl)), ⟨by decide +kernel, by decide +kernel, by decide +kernel⟩, _, _, rfl⟩
theorem mvL_124 : LkV RL 124 yX7_fault cX7_fault 2 (some .int) 7 1 := ⟨(xwc30 _ (List.mem_of_getElem? (i := 16) rfl)), (xwc30 _ (List.mem_of_getElem? (i := 17) rfl)), (xwc30 _ (List.mem_of_getElem? (i := 18) rfl)), (xwc2 _ (List.mem_of_getElem? (i := 10) rfl)), (xwc30 _ (List.mem_of_getElem? (i := 19) rfl)), ⟨by decide +kernel, by decide +kernel, by decide +kernel⟩, _, _, rfl⟩
theorem cnL_7 : LkN RL 7 6 := ⟨RX6, TX6, 6, tyX6, rfl, xlay6, tyX6_ok, (xwc2 _ (List.mem_of_getElem? (i := 13) rfl)), (xwc2 _ (List.mem_of_getElem? (i := 14) rfl)), (xwc2 _ (List.mem_of_getElem? (i := 3) rfl))⟩
theorem cnX6_7 : LkN RX6 7 1 := ⟨RX1, TX1, 2, tyX1, rfl, xlay1, tyX1_ok, (xwc2 _ (List.mem_of_getElem? (i := 21) rfl)), (xwc2 _ (List.mem_of_getElem? (i := 22) rfl)), (xwc2 _ (List.mem_of_getElem? (i := 4) rfl))⟩
theorem caX1_15 : Cond.classLink RX1 15 "[[I" ∈ xw := (xwc2 _ (List.mem_of_getElem? (i := 26) rfl))
theorem cnX6_16 : LkN RX6 16 4 := ⟨RX4, TX4, 7, tyX4, rfl, xlay4, tyX4_ok, (xwc3 _ (List.mem_of_getElem? (i := 4) rfl)), (xwc3 _ (List.mem_of_getElem? (i := 5) rfl)), (xwc2 _ (List.mem_of_getElem? (i := 5) rfl))⟩
theorem caX4_15 : Cond.classLink RX4 15 "[[I" ∈ xw := (xwc3 _ (List.mem_of_getElem? (i := 9) rfl))
theorem cnX6_23 : LkN RX6 23 3 := ⟨RX3, TX3, 12, tyX3, rfl, xlay3, tyX3_ok, (xwc4 _ (List.mem_of_getElem? (i := 0) rfl)), (xwc4 _ (List.mem_of_getElem? (i := 1) rfl)), (xwc2 _ (List.mem_of_getElem? (i := 6) rfl))⟩
theorem cnX3_9 : LkN RX3 9 5 := ⟨RX5, TX5, 6, tyX5, rfl, xlay5, tyX5_ok, (xwc4 _ (List.mem_of_getElem? (i := 6) rfl)), (xwc4 _ (List.mem_of_getElem? (i := 24) rfl)), (xwc2 _ (List.mem_of_getElem? (i := 8) rfl))⟩
theorem cnX3_17 : LkN RX3 17 0 := ⟨RX0, TX0, 10, tyX0, rfl, xlay0, tyX0_ok, (xwc4 _ (List.mem_of_getElem? (i := 7) rfl)), (xwc5 _ (List.mem_of_getElem? (i := 22) rfl)), (xwc2 _ (List.mem_of_getElem? (i := 9) rfl))⟩
theorem cnX3_30 : LkN RX3 30 2 := ⟨RX2, TX2, 5, tyX2, rfl, xlay2, tyX2_ok, (xwc4 _ (List.mem_of_getElem? (i := 8) rfl)), (xwc4 _ (List.mem_of_getElem? (i := 9) rfl)), (xwc2 _ (List.mem_of_getElem? (i := 7) rfl))⟩
theorem ckX6_272 : Cond.constantFloat RX6 272 (1258291200) ∈ xw := (xwc17 _ (List.mem_of_getElem? (i := 7) rfl))
theorem ckX6_233 : Cond.constant RX6 233 (50000) ∈ xw := (xwc18 _ (List.mem_of_getElem? (i := 9) rfl))
theorem ckX3_205 : Cond.constantFloat RX3 205 (1120403456) ∈ xw := (xwc19 _ (List.mem_of_getElem? (i := 0) rfl))
theorem cnL_10 : LkN RL 10 7 := ⟨RX7, TX7, 11, tyX7, rfl, xlay7, tyX7_ok, (xwc20 _ (List.mem_of_getElem? (i := 19) rfl)), (xwc20 _ (List.mem_of_getElem? (i := 20) rfl)), (xwc2 _ (List.mem_of_getElem? (i := 10) rfl))⟩
theorem ckJxf58ca_77 : Cond.constant RJxf58ca 77 (2143289344) ∈ xw := (xwc26 _ (List.mem_of_getElem? (i := 9) rfl))
theorem ckX7_205 : Cond.constant RX7 205 (50000) ∈ xw := (xwc29 _ (List.mem_of_getElem? (i := 2) rfl))
theorem ckX7_198 : Cond.constantFloat RX7 198 (1120403456) ∈ xw := (xwc29 _ (List.mem_of_getElem? (i := 12) rfl))
end
section
/-! ===== the frame of this proof: numbers as Int, entries of the heap, a judgement over a predicate of the heap ===== -/
def vi (z : Int) : Value := .int (Int32.ofInt z)
abbrev xG : Type := va_G × (Nat → ClassId)
def xTys (G : xG) : List (ClassId × FieldType) := [(G.2 0, .int), (G.2 1, .char), (G.2 2, .array .int), (G.2 3, .object "BatchExecutive$Unit"), (G.2 4, .object "BatchExecutive$Batch"), (G.2 5, .object "BatchExecutive$State")]
/-- an array of arrays: as va_AO, over an array type -/
def xAOA (t : FieldType) (U : State) : Prop := (Cond.arrayOver (.array t)).before #[] U = true
theorem xAOA.moved {t : FieldType} {u U : State} (hvm : u.vm.Alike U.vm) (h : xAOA t u) : xAOA t U := by
  have h1 : (Cond.arrayOver (.array t)).before #[] (u.setVm U.vm) = true := by rw [Cond.arrayOver_setVmC hvm]; exact h
  exact h1
/-- the words of the tables that no list of words may hold: links of nest mates, arrays of references -/
def xN (U : State) : Prop := (va_Nw (.methodLinkNest RX6 9 yX1_init RX6) U ∧ va_Nw (.methodLinkNest RX6 18 yX4_init RX6) U ∧ va_Nw (.methodLinkNest RX3 32 yX2_init RX6) U ∧ va_Nw (.methodLinkNest RX3 48 yX5_init RX6) U ∧ va_Nw (.methodLinkNest RX3 49 yX0_init RX6) U ∧ va_Nw (.methodLinkNest RX4 69 yX6_oneIf RX6) U) ∧
  va_AO "BatchExecutive$Unit" U ∧ va_AO "BatchExecutive$Batch" U ∧ va_AO "BatchExecutive$State" U ∧ xAOA .int U
theorem xN.warm {s U : State} (hW : s.WarmedH U.vm) (h : xN s) : xN U := by
  obtain ⟨⟨h1, h2, h3, h4, h5, h6⟩, h7, h8, h9, h10⟩ := h
  exact ⟨⟨h1.warmM hW, h2.warmM hW, h3.warmM hW, h4.warmM hW, h5.warmM hW, h6.warmM hW⟩, h7.moved hW.alike, h8.moved hW.alike, h9.moved hW.alike, h10.moved hW.alike⟩
theorem xN.same {s U : State} (e : s.vm = U.vm) (h : xN s) : xN U := by
  obtain ⟨⟨h1, h2, h3, h4, h5, h6⟩, h7, h8, h9, h10⟩ := h
  have ha : s.vm.Alike U.vm := by rw [e]; exact Vm.Alike.refl _
  exact ⟨⟨h1.same rfl e, h2.same rfl e, h3.same rfl e, h4.same rfl e, h5.same rfl e, h6.same rfl e⟩, h7.moved ha, h8.moved ha, h9.moved ha, h10.moved ha⟩
def xK (G : xG) (U : State) : Prop := va_K G.1 vwCl (xTys G) U ∧ xN U
theorem xK.warm {G : xG} {s U : State} (hW : s.WarmedH U.vm) (h : xK G s) : xK G U := ⟨h.1.moved hW.alike, h.2.warm hW⟩
theorem xK.same {G : xG} {s U : State} (e : s.vm = U.vm) (h : xK G s) : xK G U := ⟨h.1.moved (by rw [e]; exact Vm.Alike.refl _), h.2.same e⟩
theorem wone {D : va_G} {cl : List vw_C} {q : Nat × va_E} {H : Heap} (h : va_at D cl q H) : va_P D cl [q] H := by
  intro k q' hk
  have hz : k < 1 := (List.getElem?_eq_some_iff.mp hk).1
  rw [show k = 0 by omega] at hk
  cases hk
  exact h
/-- an object's fields; an int array's, a char array's, an array of references' contents -/
def oat (G : xG) (a ci : Nat) (fs : List Value) (H : Heap) : Prop := va_at G.1 vwCl (a, .inr (ci, fs)) H
def aat (G : xG) (j a n : Nat) (f : Int → Int) (H : Heap) : Prop := va_at G.1 vwCl (a, .inl (G.2 j, n, .inl (fun k => Int32.ofInt (f (k : Int))))) H
def rat (G : xG) (j a n : Nat) (f : Nat → Option Nat) (H : Heap) : Prop := va_at G.1 vwCl (a, .inl (G.2 j, n, .inr (.inr (.inr (.inr f))))) H
theorem oat.kept {G : xG} {a ci : Nat} {fs : List Value} {H H1 : Heap} (h : oat G a ci fs H) (hq : H1[a]? = H[a]?) : oat G a ci fs H1 := va_at.kept h hq
theorem aat.kept {G : xG} {j a n : Nat} {f : Int → Int} {H H1 : Heap} (h : aat G j a n f H) (hq : H1[a]? = H[a]?) : aat G j a n f H1 := va_at.kept h hq
theorem rat.kept {G : xG} {j a n : Nat} {f : Nat → Option Nat} {H H1 : Heap} (h : rat G j a n f H) (hq : H1[a]? = H[a]?) : rat G j a n f H1 := va_at.kept h hq
theorem oat.lt {G : xG} {a ci : Nat} {fs : List Value} {H : Heap} (h : oat G a ci fs H) : a < H.size := va_at.lt h
theorem aat.lt {G : xG} {j a n : Nat} {f : Int → Int} {H : Heap} (h : aat G j a n f H) : a < H.size := va_at.lt h
theorem rat.lt {G : xG} {j a n : Nat} {f : Nat → Option Nat} {H : Heap} (h : rat G j a n f H) : a < H.size := va_at.lt h
/-- f, but v at k -/
def up (f : Int → Int) (k v : Int) : Int → Int := fun j => if j = k then v else f j
theorem up_eq {f : Int → Int} {k v j : Int} (h : j = k) : up f k v j = v := if_pos h
theorem up_ne {f : Int → Int} {k v j : Int} (h : j ≠ k) : up f k v j = f j := if_neg h
theorem aat.congr {G : xG} {j a n : Nat} {f g : Int → Int} {H : Heap} (h : aat G j a n f H) (e : ∀ k : Int, 0 ≤ k → k < n → f k = g k) : aat G j a n g H := by
  have h1 : H[a]? = some (vp_cell (G.2 j) (n, .inl (fun k => Int32.ofInt (f (k : Int))))) := h
  show H[a]? = some (vp_cell (G.2 j) (n, .inl (fun k => Int32.ofInt (g (k : Int)))))
  rw [h1, vp_cell_i, vp_cell_i]
  unfold arrV
  congr 2
  congr 1
  funext k
  show Value.int (Int32.ofInt (f (k.val : Int))) = Value.int (Int32.ofInt (g (k.val : Int)))
  rw [e (k.val : Int) (by omega) (by have := k.isLt; omega)]
-- locals
def lget : List (Nat × Value) → Nat → Option Value
  | [], _ => none
  | q :: l, i => bif Nat.beq q.1 i then some q.2 else lget l i
def lset : List (Nat × Value) → Nat → Value → List (Nat × Value)
  | [], i, v => [(i, v)]
  | q :: l, i, v => bif Nat.beq q.1 i then lset l i v else q :: lset l i v
theorem lget_mem : ∀ {l : List (Nat × Value)} {i : Nat} {v : Value}, lget l i = some v → (i, v) ∈ l
  | [], i, v, h => by cases h
  | q :: l, i, v, h => by
    unfold lget at h
    cases hb : Nat.beq q.1 i with
    | true =>
      rw [hb] at h
      have e := Nat.eq_of_beq_eq_true hb
      have h2 : q.2 = v := Option.some.inj h
      rw [← e, ← h2]
      exact List.mem_cons_self
    | false =>
      rw [hb] at h
      exact List.mem_cons_of_mem _ (lget_mem h)
theorem lset_mem : ∀ {l : List (Nat × Value)} {i : Nat} {v : Value} {q : Nat × Value}, q ∈ lset l i v → q = (i, v) ∨ (q ∈ l ∧ q.1 ≠ i)
  | [], i, v, q, h => by
    left
    simpa [lset] using h
  | x :: l, i, v, q, h => by
    unfold lset at h
    cases hb : Nat.beq x.1 i with
    | true =>
      rw [hb] at h
      rcases lset_mem h with h | h
      · exact Or.inl h
      · exact Or.inr ⟨List.mem_cons_of_mem _ h.1, h.2⟩
    | false =>
      rw [hb] at h
      rcases List.mem_cons.mp h with h | h
      · refine Or.inr ⟨by rw [h]; exact List.mem_cons_self, fun e => ?_⟩
        rw [h] at e
        rw [e] at hb
        simp at hb
      · rcases lset_mem h with h | h
        · exact Or.inl h
        · exact Or.inr ⟨List.mem_cons_of_mem _ h.1, h.2⟩
def lhas (ls : Array Slot) (nL : Nat) (L : List (Nat × Value)) : Prop := lv_has ls nL L ∧ ∀ q ∈ L, q.2.category = 1
theorem lhas.get {ls : Array Slot} {nL : Nat} {L : List (Nat × Value)} (h : lhas ls nL L) {i : Nat} {v : Value} (hg : lget L i = some v) : ls[i]? = some (.val v) := h.1.2.2 (i, v) (lget_mem hg)
theorem lhas.cat {ls : Array Slot} {nL : Nat} {L : List (Nat × Value)} (h : lhas ls nL L) {i : Nat} {v : Value} (hg : lget L i = some v) : v.category = 1 := h.2 (i, v) (lget_mem hg)
theorem lhas.set {ls ls' : Array Slot} {nL : Nat} {L : List (Nat × Value)} {i : Nat} {v : Value} (h : lhas ls nL L) (hc : v.category = 1) (h' : lv_has ls' nL ((i, v) :: L.filter (fun q => !(q.1 == i) && !(q.1 + 1 == i && q.2.category == 2)))) : lhas ls' nL (lset L i v) := by
  refine ⟨⟨h'.1, h'.2.1, fun q hq => ?_⟩, fun q hq => ?_⟩
  · rcases lset_mem hq with e | ⟨e1, e2⟩
    · exact h'.2.2 q (by rw [e]; exact List.mem_cons_self)
    · refine h'.2.2 q (List.mem_cons_of_mem _ (List.mem_filter.mpr ⟨e1, ?_⟩))
      have e3 := h.2 q e1
      simp [e2, e3]
  · rcases lset_mem hq with e | ⟨e1, e2⟩
    · rw [e]; exact hc
    · exact h.2 q e1
theorem lhas.mono {ls : Array Slot} {nL : Nat} {L L' : List (Nat × Value)} (h : lhas ls nL L) (hs : ∀ q ∈ L', q ∈ L) : lhas ls nL L' := ⟨⟨h.1.1, h.1.2.1, fun q hq => h.1.2.2 q (hs q hq)⟩, fun q hq => h.2 q (hs q hq)⟩
-- the frame
abbrev xE : Type := Program × Launch × Env × Room × State × MethodId × Array Value × List Frame × Method × Code × (Nat → Prop) × (State → Prop)
/-- from every heap of the predicate P, at pc, with the locals L and the stack st, the machine comes to Q -/
def XJ (Γ : xE) (kc ks : Nat) (P : Heap → Prop) (pc : Nat) (L : List (Nat × Value)) (st : List Value) : Prop :=
  match Γ with
  | (p, l, e, R, s, m, args, below, meth, c, A, Q) => ∀ (H : Heap) (locs : List Loc) (ls : Array Slot), P H → va_S A s.heap H locs → lhas ls c.maxLocals L → W p l e R s m args below meth c H locs kc ks Q (F0 m pc ls st)
def XB (Γ : xE) (G : xG) (cc : ByteArray) (own : String) (nL : Nat) (rm : Room) (A : Nat → Prop) : Prop :=
  match Γ with
  | (p, _, _, R, s, m, args, _, _, c, A', _) => p.tables.exec = Jvm.exec ∧ c.code = cc ∧ c.maxLocals = nL ∧ s.vm.findClass own = some m.cls ∧ (∀ w ∈ xw, w.before args s = true) ∧ xK G s ∧ R = rm ∧ A' = A
def XR (Γ : xE) (nm : String) (ret : Option FieldType) (mc ms : Nat) (Qc : Array Value → State → Outcome → State → Prop) : Prop :=
  match Γ with
  | (_, _, _, _, s, _, args, below, meth, _, A, Q) => meth.sig.returnType = ret ∧ meth.locks = false ∧ meth.name = nm ∧ Q = MQ below Qc args s mc ms A
/-- a method's end: what it returned, and its heap; nothing outside A changed -/
def xQ (post : Option Value → Heap → Prop) (A : Nat → Prop) : Array Value → State → Outcome → State → Prop := fun _ st oc t => ∃ v, oc = .returned v ∧ post v t.heap ∧ va_F A st t
/-- a method's contract -/
def CT (G : xG) (l : Launch) (y : MethodName) (cc : ByteArray) (nL : Nat) (ret : Option FieldType) (rm : Room) (mc ms : Nat) (av : List Value) (P : Heap → Prop) (post : Option Value → Heap → Prop) (A : Nat → Prop) : Prop :=
  Met l y (Cond.code y cc nL ret :: xw) rm (va_Pc av (fun U => P U.heap ∧ xK G U)) (xQ post A) mc ms A
theorem x_met {G : xG} {l : Launch} {y : MethodName} {cc : ByteArray} {nL : Nat} {ret : Option FieldType} {rm : Room} {mc ms : Nat} {av : List Value} {P : Heap → Prop} {post : Option Value → Heap → Prop} {A : Nat → Prop} {L : List (Nat × Value)}
    (hp : plainName y.cls = true) (hrm : ∀ ws, (headSpec ws rm).room = rm) (hn : (lg_sl av).length ≤ nL) (hL : lv_args 0 av = L) (hc : ∀ q ∈ L, q.2.category = 1)
    (body : ∀ Γ : xE, Γ.2.1 = l → XB Γ G cc y.cls nL rm A → XR Γ y.name ret mc ms (xQ post A) → XJ Γ 0 0 P 0 L []) : CT G l y cc nL ret rm mc ms av P post A := by
  unfold CT
  refine Met.ofW (cc := cc) (maxL := nL) (ret := ret) hp rfl ?_
  intro p e s m args below meth c s₁ B hml hv
  obtain ⟨rfl, hP, hK⟩ := hv
  have hts := atoms_spec (ws := Cond.code y cc nL ret :: xw) B.pre
  have hown : s.vm.findClass y.cls = some m.cls := findClass_of_methodNamed B.named
  have hnm : meth.name = y.name := (name_of_methodNamed B.named B.method).1
  have h := body (p, l, e, (headSpec (Cond.code y cc nL ret :: xw) rm).room, s, m, av.toArray, below, meth, c, A, MQ below (xQ post A) av.toArray s mc ms A) rfl
    ⟨B.exec, B.bytes, hml, hown, fun w hw => hts w (List.mem_cons_of_mem _ hw), hK, hrm _, rfl⟩ ⟨B.returns, B.notSynchronized, hnm, rfl⟩
  have hl := lv_entry av (n := nL) hn
  rw [lg_entry_eq]
  refine h s.heap [] _ hP va_S.rf ?_
  rw [hml]
  exact ⟨by rw [← hL]; exact hl, hc⟩
-- the plain rows
section XR1
variable {Γ : xE} {G : xG} {cc : ByteArray} {own : String} {nL : Nat} {rm : Room} {A : Nat → Prop} {kc ks pc : Nat} {P : Heap → Prop} {L : List (Nat × Value)} {st : List Value}
theorem x_iconst (B : XB Γ G cc own nL rm A) {n : Int} (d : decode cc pc = .ok (.iconst n, 1)) (k : XJ Γ kc ks P (pc + 1) L (vi n :: st)) : XJ Γ kc ks P pc L st := by
  obtain ⟨p, l, e, R, s, m, args, below, meth, c, A', Q⟩ := Γ
  obtain ⟨hx, hb, hml, -⟩ := B
  intro H locs ls hP hS hL
  exact lv_iconst hx hb d rfl (k H locs ls hP hS hL)
theorem x_bipush (B : XB Γ G cc own nL rm A) {n : Int} (d : decode cc pc = .ok (.bipush n, 2)) (hv : (Int8.ofInt n).toInt32 = Int32.ofInt n) (k : XJ Γ kc ks P (pc + 2) L (vi n :: st)) : XJ Γ kc ks P pc L st := by
  obtain ⟨p, l, e, R, s, m, args, below, meth, c, A', Q⟩ := Γ
  obtain ⟨hx, hb, hml, -⟩ := B
  intro H locs ls hP hS hL
  exact lv_bipush hx hb d hv (k H locs ls hP hS hL)
theorem x_sipush (B : XB Γ G cc own nL rm A) {n : Int} (d : decode cc pc = .ok (.sipush n, 3)) (hv : (Int16.ofInt n).toInt32 = Int32.ofInt n) (k : XJ Γ kc ks P (pc + 3) L (vi n :: st)) : XJ Γ kc ks P pc L st := by
  obtain ⟨p, l, e, R, s, m, args, below, meth, c, A', Q⟩ := Γ
  obtain ⟨hx, hb, hml, -⟩ := B
  intro H locs ls hP hS hL
  exact lv_sipush hx hb d hv (k H locs ls hP hS hL)
theorem x_ldc (B : XB Γ G cc own nL rm A) {index : Nat} {n : Int} {v : Int32} (d : decode cc pc = .ok (.ldc index, 2)) (hw : Cond.constant own index v ∈ xw) (hv : v = Int32.ofInt n) (k : XJ Γ kc ks P (pc + 2) L (vi n :: st)) : XJ Γ kc ks P pc L st := by
  obtain ⟨p, l, e, R, s, m, args, below, meth, c, A', Q⟩ := Γ
  obtain ⟨hx, hb, hml, ho, hts, -⟩ := B
  intro H locs ls hP hS hL
  subst hv
  exact lv_ldc hx hb ho (hts _ hw) d (k H locs ls hP hS hL)
theorem x_iload_n (B : XB Γ G cc own nL rm A) {i : Fin 4} {x : Int} (d : decode cc pc = .ok (.iload_n i, 1)) (hl : lget L i = some (vi x)) (k : XJ Γ kc ks P (pc + 1) L (vi x :: st)) : XJ Γ kc ks P pc L st := by
  obtain ⟨p, l, e, R, s, m, args, below, meth, c, A', Q⟩ := Γ
  obtain ⟨hx, hb, hml, -⟩ := B
  intro H locs ls hP hS hL
  exact lv_iload_n hx hb d rfl (hL.get hl) (k H locs ls hP hS hL)
theorem x_iload (B : XB Γ G cc own nL rm A) {i : Nat} {x : Int} (d : decode cc pc = .ok (.iload i, 2)) (hl : lget L i = some (vi x)) (k : XJ Γ kc ks P (pc + 2) L (vi x :: st)) : XJ Γ kc ks P pc L st := by
  obtain ⟨p, l, e, R, s, m, args, below, meth, c, A', Q⟩ := Γ
  obtain ⟨hx, hb, hml, -⟩ := B
  intro H locs ls hP hS hL
  exact lv_iload hx hb d (hL.get hl) (k H locs ls hP hS hL)
theorem x_aload_n (B : XB Γ G cc own nL rm A) {i : Fin 4} {a : Nat} (d : decode cc pc = .ok (.aload_n i, 1)) (hl : lget L i = some (.ref a)) (k : XJ Γ kc ks P (pc + 1) L (.ref a :: st)) : XJ Γ kc ks P pc L st := by
  obtain ⟨p, l, e, R, s, m, args, below, meth, c, A', Q⟩ := Γ
  obtain ⟨hx, hb, hml, -⟩ := B
  intro H locs ls hP hS hL
  exact lv_aload_n hx hb d rfl (hL.get hl) (k H locs ls hP hS hL)
theorem x_aload (B : XB Γ G cc own nL rm A) {i : Nat} {a : Nat} (d : decode cc pc = .ok (.aload i, 2)) (hl : lget L i = some (.ref a)) (k : XJ Γ kc ks P (pc + 2) L (.ref a :: st)) : XJ Γ kc ks P pc L st := by
  obtain ⟨p, l, e, R, s, m, args, below, meth, c, A', Q⟩ := Γ
  obtain ⟨hx, hb, hml, -⟩ := B
  intro H locs ls hP hS hL
  exact lv_aload hx hb d (hL.get hl) (k H locs ls hP hS hL)
theorem x_fload_n (B : XB Γ G cc own nL rm A) {i : Fin 4} {x : UInt32} (d : decode cc pc = .ok (.fload_n i, 1)) (hl : lget L i = some (.float x)) (k : XJ Γ kc ks P (pc + 1) L (.float x :: st)) : XJ Γ kc ks P pc L st := by
  obtain ⟨p, l, e, R, s, m, args, below, meth, c, A', Q⟩ := Γ
  obtain ⟨hx, hb, hml, -⟩ := B
  intro H locs ls hP hS hL
  exact lv_fload_n hx hb d rfl (hL.get hl) (k H locs ls hP hS hL)
theorem x_istore_n (B : XB Γ G cc own nL rm A) {i : Fin 4} {x : Int} (d : decode cc pc = .ok (.istore_n i, 1)) (hi : (i : Nat) < nL) (k : XJ Γ kc ks P (pc + 1) (lset L i (vi x)) st) : XJ Γ kc ks P pc L (vi x :: st) := by
  obtain ⟨p, l, e, R, s, m, args, below, meth, c, A', Q⟩ := Γ
  obtain ⟨hx, hb, hml, -⟩ := B
  intro H locs ls hP hS hL
  exact lv_istore_n hx hb d rfl hL.1 (by rw [hml]; exact hi) rfl (fun ls' h' => k H locs ls' hP hS (hL.set rfl h'))
theorem x_istore (B : XB Γ G cc own nL rm A) {i : Nat} {x : Int} (d : decode cc pc = .ok (.istore i, 2)) (hi : i < nL) (k : XJ Γ kc ks P (pc + 2) (lset L i (vi x)) st) : XJ Γ kc ks P pc L (vi x :: st) := by
  obtain ⟨p, l, e, R, s, m, args, below, meth, c, A', Q⟩ := Γ
  obtain ⟨hx, hb, hml, -⟩ := B
  intro H locs ls hP hS hL
  exact lv_istore hx hb d hL.1 (by rw [hml]; exact hi) rfl (fun ls' h' => k H locs ls' hP hS (hL.set rfl h'))
theorem x_astore_n (B : XB Γ G cc own nL rm A) {i : Fin 4} {a : Nat} (d : decode cc pc = .ok (.astore_n i, 1)) (hi : (i : Nat) < nL) (k : XJ Γ kc ks P (pc + 1) (lset L i (.ref a)) st) : XJ Γ kc ks P pc L (.ref a :: st) := by
  obtain ⟨p, l, e, R, s, m, args, below, meth, c, A', Q⟩ := Γ
  obtain ⟨hx, hb, hml, -⟩ := B
  intro H locs ls hP hS hL
  exact lv_astore_n hx hb d rfl hL.1 (by rw [hml]; exact hi) rfl (fun ls' h' => k H locs ls' hP hS (hL.set rfl h'))
theorem x_astore (B : XB Γ G cc own nL rm A) {i : Nat} {a : Nat} (d : decode cc pc = .ok (.astore i, 2)) (hi : i < nL) (k : XJ Γ kc ks P (pc + 2) (lset L i (.ref a)) st) : XJ Γ kc ks P pc L (.ref a :: st) := by
  obtain ⟨p, l, e, R, s, m, args, below, meth, c, A', Q⟩ := Γ
  obtain ⟨hx, hb, hml, -⟩ := B
  intro H locs ls hP hS hL
  exact lv_astore hx hb d hL.1 (by rw [hml]; exact hi) rfl (fun ls' h' => k H locs ls' hP hS (hL.set rfl h'))
theorem x_fstore_n (B : XB Γ G cc own nL rm A) {i : Fin 4} {x : UInt32} (d : decode cc pc = .ok (.fstore_n i, 1)) (hi : (i : Nat) < nL) (k : XJ Γ kc ks P (pc + 1) (lset L i (.float x)) st) : XJ Γ kc ks P pc L (.float x :: st) := by
  obtain ⟨p, l, e, R, s, m, args, below, meth, c, A', Q⟩ := Γ
  obtain ⟨hx, hb, hml, -⟩ := B
  intro H locs ls hP hS hL
  exact lv_fstore_n hx hb d rfl hL.1 (by rw [hml]; exact hi) rfl (fun ls' h' => k H locs ls' hP hS (hL.set rfl h'))
theorem x_fstore (B : XB Γ G cc own nL rm A) {i : Nat} {x : UInt32} (d : decode cc pc = .ok (.fstore i, 2)) (hi : i < nL) (k : XJ Γ kc ks P (pc + 2) (lset L i (.float x)) st) : XJ Γ kc ks P pc L (.float x :: st) := by
  obtain ⟨p, l, e, R, s, m, args, below, meth, c, A', Q⟩ := Γ
  obtain ⟨hx, hb, hml, -⟩ := B
  intro H locs ls hP hS hL
  exact lv_fstore hx hb d hL.1 (by rw [hml]; exact hi) rfl (fun ls' h' => k H locs ls' hP hS (hL.set rfl h'))
theorem x_iinc (B : XB Γ G cc own nL rm A) {i : Nat} {n x : Int} (d : decode cc pc = .ok (.iinc i n, 3)) (hl : lget L i = some (vi x)) (hi : i < nL) (k : XJ Γ kc ks P (pc + 3) (lset L i (vi (x + n))) st) : XJ Γ kc ks P pc L st := by
  obtain ⟨p, l, e, R, s, m, args, below, meth, c, A', Q⟩ := Γ
  obtain ⟨hx, hb, hml, -⟩ := B
  intro H locs ls hP hS hL
  obtain ⟨j, hj⟩ := List.getElem?_of_mem (lget_mem hl)
  exact lv_iinc (v := Int32.ofInt (x + n)) hx hb d hL.1 hj (by rw [Int32.ofInt_add]) (by rw [hml]; exact hi) rfl (fun ls' h' => k H locs ls' hP hS (hL.set rfl h'))
theorem x_iadd (B : XB Γ G cc own nL rm A) {x y : Int} (d : decode cc pc = .ok (.iadd, 1)) (k : XJ Γ kc ks P (pc + 1) L (vi (x + y) :: st)) : XJ Γ kc ks P pc L (vi y :: vi x :: st) := by
  obtain ⟨p, l, e, R, s, m, args, below, meth, c, A', Q⟩ := Γ
  obtain ⟨hx, hb, hml, -⟩ := B
  intro H locs ls hP hS hL
  refine lv_iadd hx hb d ?_
  rw [← Int32.ofInt_add]
  exact k H locs ls hP hS hL
theorem x_isub (B : XB Γ G cc own nL rm A) {x y : Int} (d : decode cc pc = .ok (.isub, 1)) (k : XJ Γ kc ks P (pc + 1) L (vi (x - y) :: st)) : XJ Γ kc ks P pc L (vi y :: vi x :: st) := by
  obtain ⟨p, l, e, R, s, m, args, below, meth, c, A', Q⟩ := Γ
  obtain ⟨hx, hb, hml, -⟩ := B
  intro H locs ls hP hS hL
  refine lv_isub hx hb d ?_
  rw [← Int32.ofInt_sub]
  exact k H locs ls hP hS hL
theorem x_imul (B : XB Γ G cc own nL rm A) {x y : Int} (d : decode cc pc = .ok (.imul, 1)) (k : XJ Γ kc ks P (pc + 1) L (vi (x * y) :: st)) : XJ Γ kc ks P pc L (vi y :: vi x :: st) := by
  obtain ⟨p, l, e, R, s, m, args, below, meth, c, A', Q⟩ := Γ
  obtain ⟨hx, hb, hml, -⟩ := B
  intro H locs ls hP hS hL
  refine lv_imul hx hb d ?_
  rw [← Int32.ofInt_mul]
  exact k H locs ls hP hS hL
/-- another name of the number on top -/
theorem x_top {x y : Int} (h : x = y) (k : XJ Γ kc ks P pc L (vi y :: st)) : XJ Γ kc ks P pc L (vi x :: st) := by rw [h]; exact k
theorem x_top32 {x : Int32} {y : Int} (h : x = Int32.ofInt y) (k : XJ Γ kc ks P pc L (vi y :: st)) : XJ Γ kc ks P pc L (.int x :: st) := by rw [h]; exact k
theorem x_dup (B : XB Γ G cc own nL rm A) {v : Value} (d : decode cc pc = .ok (.dup, 1)) (hc : v.category = 1) (k : XJ Γ kc ks P (pc + 1) L (v :: v :: st)) : XJ Γ kc ks P pc L (v :: st) := by
  obtain ⟨p, l, e, R, s, m, args, below, meth, c, A', Q⟩ := Γ
  obtain ⟨hx, hb, hml, -⟩ := B
  intro H locs ls hP hS hL
  exact lv_dup hx hb d hc (k H locs ls hP hS hL)
theorem x_goto (B : XB Γ G cc own nL rm A) {off : Int} {tgt : Nat} (d : decode cc pc = .ok (.goto off, 3)) (ht : (pc : Int) + off = (tgt : Int)) (k : XJ Γ kc ks P tgt L st) : XJ Γ kc ks P pc L st := by
  obtain ⟨p, l, e, R, s, m, args, below, meth, c, A', Q⟩ := Γ
  obtain ⟨hx, hb, hml, -⟩ := B
  intro H locs ls hP hS hL
  exact lv_goto hx hb d ht (k H locs ls hP hS hL)
/-- fewer locals listed -/
theorem x_loc {L' : List (Nat × Value)} (h : ∀ q ∈ L', q ∈ L) (k : XJ Γ kc ks P pc L' st) : XJ Γ kc ks P pc L st := by
  obtain ⟨p, l, e, R, s, m, args, below, meth, c, A', Q⟩ := Γ
  intro H locs ls hP hS hL
  exact k H locs ls hP hS (hL.mono h)
/-- another predicate of the heap -/
theorem x_weak {P' : Heap → Prop} (h : ∀ H, P H → P' H) (k : XJ Γ kc ks P' pc L st) : XJ Γ kc ks P pc L st := by
  obtain ⟨p, l, e, R, s, m, args, below, meth, c, A', Q⟩ := Γ
  intro H locs ls hP hS hL
  exact k H locs ls (h H hP) hS hL
/-- a fact that the predicate gives -/
theorem x_fact {φ : Prop} (h : ∀ H, P H → φ) (k : φ → XJ Γ kc ks P pc L st) : XJ Γ kc ks P pc L st := by
  obtain ⟨p, l, e, R, s, m, args, below, meth, c, A', Q⟩ := Γ
  intro H locs ls hP hS hL
  exact k (h H hP) H locs ls hP hS hL
theorem x_ex {ι : Type} {P' : ι → Heap → Prop} (h : ∀ H, P H → ∃ i, P' i H) (k : ∀ i, XJ Γ kc ks (P' i) pc L st) : XJ Γ kc ks P pc L st := by
  obtain ⟨p, l, e, R, s, m, args, below, meth, c, A', Q⟩ := Γ
  intro H locs ls hP hS hL
  obtain ⟨i, hi⟩ := h H hP
  exact k i H locs ls hi hS hL
end XR1
theorem i32_eq {x y : Int} (hx : -2147483648 ≤ x ∧ x < 2147483648) (hy : -2147483648 ≤ y ∧ y < 2147483648) : Int32.ofInt x = Int32.ofInt y ↔ x = y := by
  rw [← Int32.toInt_inj, Int32.toInt_ofInt_of_le (by omega) (by omega), Int32.toInt_ofInt_of_le (by omega) (by omega)]
theorem i32_lt {x y : Int} (hx : -2147483648 ≤ x ∧ x < 2147483648) (hy : -2147483648 ≤ y ∧ y < 2147483648) : Int32.ofInt x < Int32.ofInt y ↔ x < y := by
  rw [Int32.lt_iff_toInt_lt, Int32.toInt_ofInt_of_le (by omega) (by omega), Int32.toInt_ofInt_of_le (by omega) (by omega)]
theorem i32_le {x y : Int} (hx : -2147483648 ≤ x ∧ x < 2147483648) (hy : -2147483648 ≤ y ∧ y < 2147483648) : Int32.ofInt x ≤ Int32.ofInt y ↔ x ≤ y := by
  rw [Int32.le_iff_toInt_le, Int32.toInt_ofInt_of_le (by omega) (by omega), Int32.toInt_ofInt_of_le (by omega) (by omega)]
section XR2
variable {Γ : xE} {G : xG} {cc : ByteArray} {own : String} {nL : Nat} {rm : Room} {A : Nat → Prop} {kc ks pc : Nat} {P : Heap → Prop} {L : List (Nat × Value)} {st : List Value} {off : Int} {tgt : Nat} {x y : Int}
theorem x_icmp_eq (B : XB Γ G cc own nL rm A) (d : decode cc pc = .ok (.if_icmp .eq off, 3)) (ht : (pc : Int) + off = (tgt : Int)) (hx : -2147483648 ≤ x ∧ x < 2147483648) (hy : -2147483648 ≤ y ∧ y < 2147483648) 
    (kt : x = y → XJ Γ kc ks P tgt L st) (kf : ¬ (x = y) → XJ Γ kc ks P (pc + 3) L st) : XJ Γ kc ks P pc L (vi y :: vi x :: st) := by
  obtain ⟨p, l, e, R, s, m, args, below, meth, c, A', Q⟩ := Γ
  obtain ⟨hx0, hb, hml, -⟩ := B
  intro H locs ls hP hS hL
  exact lv_icmp_eq hx0 hb d ht (fun h => kt ((i32_eq hx hy).mp h) H locs ls hP hS hL) (fun h => kf (fun z => h ((i32_eq hx hy).mpr z)) H locs ls hP hS hL)
theorem x_if_eq (B : XB Γ G cc own nL rm A) (d : decode cc pc = .ok (.ifCond .eq off, 3)) (ht : (pc : Int) + off = (tgt : Int)) (hx : -2147483648 ≤ x ∧ x < 2147483648) 
    (kt : x = 0 → XJ Γ kc ks P tgt L st) (kf : ¬ (x = 0) → XJ Γ kc ks P (pc + 3) L st) : XJ Γ kc ks P pc L (vi x :: st) := by
  obtain ⟨p, l, e, R, s, m, args, below, meth, c, A', Q⟩ := Γ
  obtain ⟨hx0, hb, hml, -⟩ := B
  intro H locs ls hP hS hL
  exact lv_if_eq hx0 hb d ht (fun h => kt ((i32_eq (y := 0) hx (by omega)).mp h) H locs ls hP hS hL) (fun h => kf (fun z => h ((i32_eq (y := 0) hx (by omega)).mpr z)) H locs ls hP hS hL)
theorem x_icmp_ne (B : XB Γ G cc own nL rm A) (d : decode cc pc = .ok (.if_icmp .ne off, 3)) (ht : (pc : Int) + off = (tgt : Int)) (hx : -2147483648 ≤ x ∧ x < 2147483648) (hy : -2147483648 ≤ y ∧ y < 2147483648) 
    (kt : x ≠ y → XJ Γ kc ks P tgt L st) (kf : x = y → XJ Γ kc ks P (pc + 3) L st) : XJ Γ kc ks P pc L (vi y :: vi x :: st) := by
  obtain ⟨p, l, e, R, s, m, args, below, meth, c, A', Q⟩ := Γ
  obtain ⟨hx0, hb, hml, -⟩ := B
  intro H locs ls hP hS hL
  exact lv_icmp_ne hx0 hb d ht (fun h => kt (fun z => h ((i32_eq hx hy).mpr z)) H locs ls hP hS hL) (fun h => kf ((i32_eq hx hy).mp h) H locs ls hP hS hL)
theorem x_if_ne (B : XB Γ G cc own nL rm A) (d : decode cc pc = .ok (.ifCond .ne off, 3)) (ht : (pc : Int) + off = (tgt : Int)) (hx : -2147483648 ≤ x ∧ x < 2147483648) 
    (kt : x ≠ 0 → XJ Γ kc ks P tgt L st) (kf : x = 0 → XJ Γ kc ks P (pc + 3) L st) : XJ Γ kc ks P pc L (vi x :: st) := by
  obtain ⟨p, l, e, R, s, m, args, below, meth, c, A', Q⟩ := Γ
  obtain ⟨hx0, hb, hml, -⟩ := B
  intro H locs ls hP hS hL
  exact lv_if_ne hx0 hb d ht (fun h => kt (fun z => h ((i32_eq (y := 0) hx (by omega)).mpr z)) H locs ls hP hS hL) (fun h => kf ((i32_eq (y := 0) hx (by omega)).mp h) H locs ls hP hS hL)
theorem x_icmp_lt (B : XB Γ G cc own nL rm A) (d : decode cc pc = .ok (.if_icmp .lt off, 3)) (ht : (pc : Int) + off = (tgt : Int)) (hx : -2147483648 ≤ x ∧ x < 2147483648) (hy : -2147483648 ≤ y ∧ y < 2147483648) 
    (kt : x < y → XJ Γ kc ks P tgt L st) (kf : y ≤ x → XJ Γ kc ks P (pc + 3) L st) : XJ Γ kc ks P pc L (vi y :: vi x :: st) := by
  obtain ⟨p, l, e, R, s, m, args, below, meth, c, A', Q⟩ := Γ
  obtain ⟨hx0, hb, hml, -⟩ := B
  intro H locs ls hP hS hL
  exact lv_icmp_lt hx0 hb d ht (fun h => kt ((i32_lt hx hy).mp h) H locs ls hP hS hL) (fun h => kf (Int.not_lt.mp (fun z => h ((i32_lt hx hy).mpr z))) H locs ls hP hS hL)
theorem x_if_lt (B : XB Γ G cc own nL rm A) (d : decode cc pc = .ok (.ifCond .lt off, 3)) (ht : (pc : Int) + off = (tgt : Int)) (hx : -2147483648 ≤ x ∧ x < 2147483648) 
    (kt : x < 0 → XJ Γ kc ks P tgt L st) (kf : 0 ≤ x → XJ Γ kc ks P (pc + 3) L st) : XJ Γ kc ks P pc L (vi x :: st) := by
  obtain ⟨p, l, e, R, s, m, args, below, meth, c, A', Q⟩ := Γ
  obtain ⟨hx0, hb, hml, -⟩ := B
  intro H locs ls hP hS hL
  exact lv_if_lt hx0 hb d ht (fun h => kt ((i32_lt (y := 0) hx (by omega)).mp h) H locs ls hP hS hL) (fun h => kf (Int.not_lt.mp (fun z => h ((i32_lt (y := 0) hx (by omega)).mpr z))) H locs ls hP hS hL)
theorem x_icmp_ge (B : XB Γ G cc own nL rm A) (d : decode cc pc = .ok (.if_icmp .ge off, 3)) (ht : (pc : Int) + off = (tgt : Int)) (hx : -2147483648 ≤ x ∧ x < 2147483648) (hy : -2147483648 ≤ y ∧ y < 2147483648) 
    (kt : y ≤ x → XJ Γ kc ks P tgt L st) (kf : x < y → XJ Γ kc ks P (pc + 3) L st) : XJ Γ kc ks P pc L (vi y :: vi x :: st) := by
  obtain ⟨p, l, e, R, s, m, args, below, meth, c, A', Q⟩ := Γ
  obtain ⟨hx0, hb, hml, -⟩ := B
  intro H locs ls hP hS hL
  exact lv_icmp_ge hx0 hb d ht (fun h => kt ((i32_le (x := y) (y := x) hy hx).mp h) H locs ls hP hS hL) (fun h => kf (Int.not_le.mp (fun z => h ((i32_le (x := y) (y := x) hy hx).mpr z))) H locs ls hP hS hL)
theorem x_if_ge (B : XB Γ G cc own nL rm A) (d : decode cc pc = .ok (.ifCond .ge off, 3)) (ht : (pc : Int) + off = (tgt : Int)) (hx : -2147483648 ≤ x ∧ x < 2147483648) 
    (kt : 0 ≤ x → XJ Γ kc ks P tgt L st) (kf : x < 0 → XJ Γ kc ks P (pc + 3) L st) : XJ Γ kc ks P pc L (vi x :: st) := by
  obtain ⟨p, l, e, R, s, m, args, below, meth, c, A', Q⟩ := Γ
  obtain ⟨hx0, hb, hml, -⟩ := B
  intro H locs ls hP hS hL
  exact lv_if_ge hx0 hb d ht (fun h => kt ((i32_le (x := 0) (y := x) (by omega) hx).mp h) H locs ls hP hS hL) (fun h => kf (Int.not_le.mp (fun z => h ((i32_le (x := 0) (y := x) (by omega) hx).mpr z))) H locs ls hP hS hL)
theorem x_icmp_gt (B : XB Γ G cc own nL rm A) (d : decode cc pc = .ok (.if_icmp .gt off, 3)) (ht : (pc : Int) + off = (tgt : Int)) (hx : -2147483648 ≤ x ∧ x < 2147483648) (hy : -2147483648 ≤ y ∧ y < 2147483648) 
    (kt : y < x → XJ Γ kc ks P tgt L st) (kf : x ≤ y → XJ Γ kc ks P (pc + 3) L st) : XJ Γ kc ks P pc L (vi y :: vi x :: st) := by
  obtain ⟨p, l, e, R, s, m, args, below, meth, c, A', Q⟩ := Γ
  obtain ⟨hx0, hb, hml, -⟩ := B
  intro H locs ls hP hS hL
  exact lv_icmp_gt hx0 hb d ht (fun h => kt ((i32_lt (x := y) (y := x) hy hx).mp h) H locs ls hP hS hL) (fun h => kf (Int.not_lt.mp (fun z => h ((i32_lt (x := y) (y := x) hy hx).mpr z))) H locs ls hP hS hL)
theorem x_if_gt (B : XB Γ G cc own nL rm A) (d : decode cc pc = .ok (.ifCond .gt off, 3)) (ht : (pc : Int) + off = (tgt : Int)) (hx : -2147483648 ≤ x ∧ x < 2147483648) 
    (kt : 0 < x → XJ Γ kc ks P tgt L st) (kf : x ≤ 0 → XJ Γ kc ks P (pc + 3) L st) : XJ Γ kc ks P pc L (vi x :: st) := by
  obtain ⟨p, l, e, R, s, m, args, below, meth, c, A', Q⟩ := Γ
  obtain ⟨hx0, hb, hml, -⟩ := B
  intro H locs ls hP hS hL
  exact lv_if_gt hx0 hb d ht (fun h => kt ((i32_lt (x := 0) (y := x) (by omega) hx).mp h) H locs ls hP hS hL) (fun h => kf (Int.not_lt.mp (fun z => h ((i32_lt (x := 0) (y := x) (by omega) hx).mpr z))) H locs ls hP hS hL)
theorem x_icmp_le (B : XB Γ G cc own nL rm A) (d : decode cc pc = .ok (.if_icmp .le off, 3)) (ht : (pc : Int) + off = (tgt : Int)) (hx : -2147483648 ≤ x ∧ x < 2147483648) (hy : -2147483648 ≤ y ∧ y < 2147483648) 
    (kt : x ≤ y → XJ Γ kc ks P tgt L st) (kf : y < x → XJ Γ kc ks P (pc + 3) L st) : XJ Γ kc ks P pc L (vi y :: vi x :: st) := by
  obtain ⟨p, l, e, R, s, m, args, below, meth, c, A', Q⟩ := Γ
  obtain ⟨hx0, hb, hml, -⟩ := B
  intro H locs ls hP hS hL
  exact lv_icmp_le hx0 hb d ht (fun h => kt ((i32_le hx hy).mp h) H locs ls hP hS hL) (fun h => kf (Int.not_le.mp (fun z => h ((i32_le hx hy).mpr z))) H locs ls hP hS hL)
theorem x_if_le (B : XB Γ G cc own nL rm A) (d : decode cc pc = .ok (.ifCond .le off, 3)) (ht : (pc : Int) + off = (tgt : Int)) (hx : -2147483648 ≤ x ∧ x < 2147483648) 
    (kt : x ≤ 0 → XJ Γ kc ks P tgt L st) (kf : 0 < x → XJ Γ kc ks P (pc + 3) L st) : XJ Γ kc ks P pc L (vi x :: st) := by
  obtain ⟨p, l, e, R, s, m, args, below, meth, c, A', Q⟩ := Γ
  obtain ⟨hx0, hb, hml, -⟩ := B
  intro H locs ls hP hS hL
  exact lv_if_le hx0 hb d ht (fun h => kt ((i32_le (y := 0) hx (by omega)).mp h) H locs ls hP hS hL) (fun h => kf (Int.not_le.mp (fun z => h ((i32_le (y := 0) hx (by omega)).mpr z))) H locs ls hP hS hL)
end XR2
-- fields
section XR3
variable {Γ : xE} {G : xG} {cc : ByteArray} {own : String} {nL : Nat} {rm : Room} {A : Nat → Prop} {kc ks pc : Nat} {P : Heap → Prop} {L : List (Nat × Value)} {st : List Value}
theorem x_get (B : XB Γ G cc own nL rm A) {idx ci k a : Nat} {v : Value} (lk : LkG own idx ci k) (d : decode cc pc = .ok (.getfield idx, 3)) (hv : ∀ H, P H → ∃ fs, oat G a ci fs H ∧ fs[k]? = some v)
    (kk : XJ Γ kc ks P (pc + 3) L (v :: st)) : XJ Γ kc ks P pc L (.ref a :: st) := by
  obtain ⟨p, l, e, R, s, m, args, below, meth, c, A', Q⟩ := Γ
  obtain ⟨hx, hb, hml, ho, hts, ⟨hK, hN⟩, hR, hA⟩ := B
  obtain ⟨C, T, N, hc, hk, hin, hl⟩ := lk
  intro H locs ls hP hS hL
  obtain ⟨fs, h1, h2⟩ := hv H hP
  exact va_get (ws := [(a, .inr (ci, fs))]) hx hb hts hin ho hK (wone h1) 0 rfl hc k hk (hts _ hl) (fun _ h => h) h2 d (kk H locs ls hP hS hL)
theorem x_put (B : XB Γ G cc own nL rm A) {idx ci k a : Nat} {v : Value} {ty : FieldType} {P' : Heap → Prop} (lk : LkP own idx ci k ty false) (d : decode cc pc = .ok (.putfield idx, 3)) (hn : narrow ty v = v) (hf : fits ty v = true) (hA : A a)
    (hv : ∀ H, P H → ∃ fs, oat G a ci fs H ∧ k < fs.length ∧ ∀ H1, oat G a ci (fs.set k v) H1 → H1.size = H.size → (∀ q, q ≠ a → H1[q]? = H[q]?) → P' H1)
    (kk : XJ Γ kc ks P' (pc + 3) L st) : XJ Γ kc ks P pc L (v :: .ref a :: st) := by
  obtain ⟨p, l, e, R, s, m, args, below, meth, c, A', Q⟩ := Γ
  obtain ⟨hx, hb, hml, ho, hts, ⟨hK, hN⟩, hR, hAA⟩ := B
  obtain ⟨C, T, N, ty0, hc, hk, hin, hlk, hty, hnm, hfin, hd, hC⟩ := lk
  intro H locs ls hP hS hL
  obtain ⟨fs, h1, hl, h2⟩ := hv H hP
  have hap := va_apart (own := own) hts hin ty0 hty hnm hK hc
  obtain ⟨r, hr1, cell, q1, q2, q3, q4⟩ := h1
  have hr : r = (C, T, N) := Option.some.inj (hr1.symm.trans hc)
  subst hr
  obtain ⟨hSl, hfc, kC, hkC, hkind⟩ := hK.1 ci _ hc
  obtain ⟨cf, kf, fi, f, hi, hsl⟩ := hSl k hk
  have hlay := hts _ (hin _ (u_in_lay hk))
  unfold u_lay at hlay
  rw [if_neg (by rw [hfin]; decide)] at hlay
  have hst := (u_facts hfc hkC (u_lays hts hin hk) hi).1
  have h6 := u_store hfc hkC hkind hlay hi hd hn hf
  subst hAA
  refine W.putK hx hb (f := f) ⟨ho, hts _ hlk, ⟨_, _, _, hi⟩, hst⟩ (by rw [q2]; exact h6) q1 q3 (by rw [hsl]; exact k2_hasslot (q4 k hk)) rfl rfl d fun H' e1 e2 e3 => ?_
  rw [hsl] at e1 ⊢
  exact kk H' _ ls (h2 H' ⟨_, hc, t_OB.to (V := updV (vp_V fs) k v) ⟨_, e1, q2, q3, t_set q4 hap hk v⟩ (fun j _ => vp_updV_set hl v j)⟩ e2 e3) (hS.put e2 e3 hA) hL
theorem x_putF (B : XB Γ G cc own nL rm A) {nm : String} {ret : Option FieldType} {mc ms : Nat} {Qc : Array Value → State → Outcome → State → Prop} (R : XR Γ nm ret mc ms Qc) (hnm0 : nm = "<init>") {idx ci k a : Nat} {v : Value} {ty : FieldType} {P' : Heap → Prop} (lk : LkP own idx ci k ty true) (hown : ∀ C T N, vwCl[ci]? = some (C, T, N) → C = own) (d : decode cc pc = .ok (.putfield idx, 3)) (hn : narrow ty v = v) (hf : fits ty v = true) (hA : A a)
    (hv : ∀ H, P H → ∃ fs, oat G a ci fs H ∧ k < fs.length ∧ ∀ H1, oat G a ci (fs.set k v) H1 → H1.size = H.size → (∀ q, q ≠ a → H1[q]? = H[q]?) → P' H1)
    (kk : XJ Γ kc ks P' (pc + 3) L st) : XJ Γ kc ks P pc L (v :: .ref a :: st) := by
  obtain ⟨p, l, e, R', s, m, args, below, meth, c, A', Q⟩ := Γ
  obtain ⟨hx, hb, hml, ho, hts, ⟨hK, hN⟩, hR, hAA⟩ := B
  obtain ⟨-, -, hmn, -⟩ := R
  obtain ⟨C, T, N, ty0, hc, hk, hin, hlk, hty, hnm, hfin, hd, hC⟩ := lk
  have hCo := hown C T N hc
  intro H locs ls hP hS hL
  obtain ⟨fs, h1, hl, h2⟩ := hv H hP
  have hap := va_apart (own := own) hts hin ty0 hty hnm hK hc
  obtain ⟨r, hr1, cell, q1, q2, q3, q4⟩ := h1
  have hr : r = (C, T, N) := Option.some.inj (hr1.symm.trans hc)
  subst hr
  obtain ⟨hSl, hfc, kC, hkC, hkind⟩ := hK.1 ci _ hc
  obtain ⟨cf, kf, fi, f, hi, hsl⟩ := hSl k hk
  have hlay := hts _ (hin _ (u_in_lay hk))
  unfold u_lay at hlay
  rw [if_pos hfin] at hlay
  have hst := (u_facts hfc hkC (u_lays hts hin hk) hi).1
  have hcf : m.cls = cf := by
    obtain ⟨_, _, c', _, _, _, -, -, hf', -, -, -, hown2, -⟩ := Cond.laysFinal_spec hlay
    have e1 : c' = cf := by have := hi.symm.trans hf'; simp at this; exact this.1.symm
    rw [hC.trans hCo] at hown2
    rw [← e1]; exact Option.some.inj (ho.symm.trans hown2)
  have h6 := u_fits hfc hkC hkind (Or.inr hlay) hi hd hn hf
  subst hAA
  refine W.putFinK hx hb ho (hts _ hlk) hi hst hcf (hmn.trans hnm0) (by rw [q2]; exact h6) q1 q3 (by rw [hsl]; exact k2_hasslot (q4 k hk)) rfl rfl d fun H' e1 e2 e3 => ?_
  rw [hsl] at e1 ⊢
  exact kk H' _ ls (h2 H' ⟨_, hc, t_OB.to (V := updV (vp_V fs) k v) ⟨_, e1, q2, q3, t_set q4 hap hk v⟩ (fun j _ => vp_updV_set hl v j)⟩ e2 e3) (hS.put e2 e3 hA) hL

end XR3
theorem vi_nat {z : Int} {n : Nat} (h : 0 ≤ z ∧ z < n) (hn : n ≤ 2147483647) : (Int32.ofInt z).toNatClampNeg = z.toNat ∧ vp_in (Int32.ofInt z) n := by
  have e : (Int32.ofInt z).toInt = z := Int32.toInt_ofInt_of_le (by omega) (by omega)
  have e1 : (Int32.ofInt z).toNatClampNeg = z.toNat := by show (Int32.ofInt z).toInt.toNat = _; rw [e]
  refine ⟨e1, fun q => ?_⟩
  rcases q with q | q
  · rw [Int32.lt_iff_toInt_lt, e] at q
    have h0 : (0 : Int32).toInt = 0 := rfl
    omega
  · rw [e1] at q
    omega
section XR4
variable {Γ : xE} {G : xG} {cc : ByteArray} {own : String} {nL : Nat} {rm : Room} {A : Nat → Prop} {kc ks pc : Nat} {P : Heap → Prop} {L : List (Nat × Value)} {st : List Value}
theorem x_iald (B : XB Γ G cc own nL rm A) {a n : Nat} {f : Int → Int} {z : Int} (d : decode cc pc = .ok (.iaload, 1)) (hz : 0 ≤ z ∧ z < n) (hn : n ≤ 2147483647) (hv : ∀ H, P H → aat G 0 a n f H)
    (kk : XJ Γ kc ks P (pc + 1) L (vi (f z) :: st)) : XJ Γ kc ks P pc L (vi z :: .ref a :: st) := by
  obtain ⟨p, l, e, R, s, m, args, below, meth, c, A', Q⟩ := Γ
  obtain ⟨hx, hb, hml, ho, hts, ⟨hK, hN⟩, hR, hA⟩ := B
  intro H locs ls hP hS hL
  obtain ⟨e1, e2⟩ := vi_nat hz hn
  refine va_iald (ws := [(a, .inl (G.2 0, n, .inl (fun k => Int32.ofInt (f (k : Int)))))]) (tys := xTys G) hx hb hK (wone (hv H hP)) 0 0 rfl rfl e2 d ?_
  rw [e1, show ((z.toNat : Nat) : Int) = z by omega]
  exact kk H locs ls hP hS hL
theorem x_cald (B : XB Γ G cc own nL rm A) {a n : Nat} {f : Int → Int} {z : Int} (d : decode cc pc = .ok (.caload, 1)) (hz : 0 ≤ z ∧ z < n) (hn : n ≤ 2147483647) (hv : ∀ H, P H → aat G 1 a n f H)
    (kk : XJ Γ kc ks P (pc + 1) L (vi (f z) :: st)) : XJ Γ kc ks P pc L (vi z :: .ref a :: st) := by
  obtain ⟨p, l, e, R, s, m, args, below, meth, c, A', Q⟩ := Γ
  obtain ⟨hx, hb, hml, ho, hts, ⟨hK, hN⟩, hR, hA⟩ := B
  intro H locs ls hP hS hL
  obtain ⟨e1, e2⟩ := vi_nat hz hn
  refine va_cald (ws := [(a, .inl (G.2 1, n, .inl (fun k => Int32.ofInt (f (k : Int)))))]) (tys := xTys G) hx hb hK (wone (hv H hP)) 0 1 rfl rfl e2 d ?_
  rw [e1, show ((z.toNat : Nat) : Int) = z by omega]
  exact kk H locs ls hP hS hL
theorem x_aald (B : XB Γ G cc own nL rm A) {j a n r : Nat} {C : String} {f : Nat → Option Nat} {z : Int} (d : decode cc pc = .ok (.aaload, 1)) (hj : (xTys G)[j]? = some (G.2 j, .object C)) (hz : 0 ≤ z ∧ z < n) (hn : n ≤ 2147483647) (hv : ∀ H, P H → rat G j a n f H ∧ f z.toNat = some r)
    (kk : XJ Γ kc ks P (pc + 1) L (.ref r :: st)) : XJ Γ kc ks P pc L (vi z :: .ref a :: st) := by
  obtain ⟨p, l, e, R, s, m, args, below, meth, c, A', Q⟩ := Γ
  obtain ⟨hx, hb, hml, ho, hts, ⟨hK, hN⟩, hR, hA⟩ := B
  intro H locs ls hP hS hL
  obtain ⟨e1, e2⟩ := vi_nat hz hn
  obtain ⟨h1, h2⟩ := hv H hP
  refine va_aldq (ws := [(a, .inl (G.2 j, n, .inr (.inr (.inr (.inr f)))))]) (tys := xTys G) hx hb hK (wone h1) 0 j rfl hj e2 d ?_
  rw [e1, h2]
  exact kk H locs ls hP hS hL
theorem x_aaldA (B : XB Γ G cc own nL rm A) {j a n r : Nat} {t : FieldType} {f : Nat → Option Nat} {z : Int} (d : decode cc pc = .ok (.aaload, 1)) (hj : (xTys G)[j]? = some (G.2 j, .array t)) (hz : 0 ≤ z ∧ z < n) (hn : n ≤ 2147483647) (hv : ∀ H, P H → rat G j a n f H ∧ f z.toNat = some r)
    (kk : XJ Γ kc ks P (pc + 1) L (.ref r :: st)) : XJ Γ kc ks P pc L (vi z :: .ref a :: st) := by
  obtain ⟨p, l, e, R, s, m, args, below, meth, c, A', Q⟩ := Γ
  obtain ⟨hx, hb, hml, ho, hts, ⟨hK, hN⟩, hR, hA⟩ := B
  intro H locs ls hP hS hL
  obtain ⟨e1, e2⟩ := vi_nat hz hn
  obtain ⟨h1, h2⟩ := hv H hP
  have hlt : (Int32.ofInt z).toNatClampNeg < n := Nat.not_le.mp fun q => e2 (Or.inr q)
  refine W.aald (v := va_rf (f (Int32.ofInt z).toNatClampNeg)) (ty := .array t) hx hb h1 ((hK.2 j _ hj).1 n (fun j => va_rf (f j))) rfl (fun q => by cases q) (by show ¬ (Int32.ofInt z < 0 ∨ (arrV _ _ _).slots.size ≤ _); rw [arrV_size]; exact e2) (by show (arrV _ _ _).slots[_]? = _; rw [arrV_read _ _ hlt]) rfl rfl d ?_
  rw [e1, h2]
  exact kk H locs ls hP hS hL
/-- a store into an int array -/
theorem x_iast (B : XB Γ G cc own nL rm A) {a n : Nat} {f : Int → Int} {z v : Int} {P' : Heap → Prop} (d : decode cc pc = .ok (.iastore, 1)) (hz : 0 ≤ z ∧ z < n) (hn : n ≤ 2147483647) (hA : A a)
    (hv : ∀ H, P H → aat G 0 a n f H ∧ ∀ H1, aat G 0 a n (up f z v) H1 → H1.size = H.size → (∀ q, q ≠ a → H1[q]? = H[q]?) → P' H1)
    (kk : XJ Γ kc ks P' (pc + 1) L st) : XJ Γ kc ks P pc L (vi v :: vi z :: .ref a :: st) := by
  obtain ⟨p, l, e, R, s, m, args, below, meth, c, A', Q⟩ := Γ
  obtain ⟨hx, hb, hml, ho, hts, ⟨hK, hN⟩, hR, hAA⟩ := B
  intro H locs ls hP hS hL
  obtain ⟨e1, e2⟩ := vi_nat hz hn
  obtain ⟨h1, h2⟩ := hv H hP
  subst hAA
  refine W.iast hx hb h1 ((hK.2 0 (G.2 0, .int) rfl).1 n (fun j => .int (Int32.ofInt (f (j : Int))))) (fun q => by cases q) (by show ¬ (Int32.ofInt z < 0 ∨ (arrV _ _ _).slots.size ≤ _); rw [arrV_size]; exact e2) rfl rfl d fun H1 e z1 oq => ?_
  refine kk H1 _ ls (h2 H1 ?_ z1 oq) (hS.put z1 oq hA) hL
  show H1[a]? = some (vp_cell _ _)
  rw [e, vp_cell_i, vp_cell_i, arrV_store]
  congr 2
  funext q
  rw [e1]
  by_cases hq : q = z.toNat
  · subst hq
    rw [up_eq (by omega)]
    simp [updV]
  · rw [up_ne (by omega)]
    simp [updV, hq]
theorem x_cast (B : XB Γ G cc own nL rm A) {a n : Nat} {f : Int → Int} {z v : Int} {P' : Heap → Prop} (d : decode cc pc = .ok (.castore, 1)) (hz : 0 ≤ z ∧ z < n) (hn : n ≤ 2147483647) (hA : A a) (hc : narrow .char (vi v) = vi v)
    (hv : ∀ H, P H → aat G 1 a n f H ∧ ∀ H1, aat G 1 a n (up f z v) H1 → H1.size = H.size → (∀ q, q ≠ a → H1[q]? = H[q]?) → P' H1)
    (kk : XJ Γ kc ks P' (pc + 1) L st) : XJ Γ kc ks P pc L (vi v :: vi z :: .ref a :: st) := by
  obtain ⟨p, l, e, R, s, m, args, below, meth, c, A', Q⟩ := Γ
  obtain ⟨hx, hb, hml, ho, hts, ⟨hK, hN⟩, hR, hAA⟩ := B
  intro H locs ls hP hS hL
  obtain ⟨e1, e2⟩ := vi_nat hz hn
  obtain ⟨h1, h2⟩ := hv H hP
  subst hAA
  refine W.cast hx hb h1 ((hK.2 1 (G.2 1, .char) rfl).1 n (fun j => .int (Int32.ofInt (f (j : Int))))) (fun q => by cases q) (by show ¬ (Int32.ofInt z < 0 ∨ (arrV _ _ _).slots.size ≤ _); rw [arrV_size]; exact e2) rfl rfl d fun H1 e z1 oq => ?_
  refine kk H1 _ ls (h2 H1 ?_ z1 oq) (hS.put z1 oq hA) hL
  show H1[a]? = some (vp_cell _ _)
  rw [e, show narrow .char (.int (Int32.ofInt v)) = Value.int (Int32.ofInt v) from hc, vp_cell_i, vp_cell_i, arrV_store]
  congr 2
  funext q
  rw [e1]
  by_cases hq : q = z.toNat
  · subst hq
    rw [up_eq (by omega)]
    simp [updV]
  · rw [up_ne (by omega)]
    simp [updV, hq]
/-- a store into an array of references -/
theorem x_aast (B : XB Γ G cc own nL rm A) {j ci a n v : Nat} {f : Nat → Option Nat} {z : Int} {r : vw_C} {P' : Heap → Prop} (d : decode cc pc = .ok (.aastore, 1)) (hj : (xTys G)[j]? = some (G.2 j, .object r.1)) (hc : vwCl[ci]? = some r) (hz : 0 ≤ z ∧ z < n) (hn : n ≤ 2147483647) (hA : A a)
    (hv : ∀ H, P H → rat G j a n f H ∧ (∃ fs, oat G v ci fs H) ∧ ∀ H1, rat G j a n (va_up f z.toNat (some v)) H1 → H1.size = H.size → (∀ q, q ≠ a → H1[q]? = H[q]?) → P' H1)
    (kk : XJ Γ kc ks P' (pc + 1) L st) : XJ Γ kc ks P pc L (.ref v :: vi z :: .ref a :: st) := by
  obtain ⟨p, l, e, R, s, m, args, below, meth, c, A', Q⟩ := Γ
  obtain ⟨hx, hb, hml, ho, hts, ⟨hK, hN⟩, hR, hAA⟩ := B
  intro H locs ls hP hS hL
  obtain ⟨e1, hin⟩ := vi_nat hz hn
  obtain ⟨ha, ⟨fs, hvv⟩, h2⟩ := hv H hP
  subst hAA
  have hlt : (Int32.ofInt z).toNatClampNeg < n := Nat.not_le.mp fun q => hin (Or.inr q)
  have h0 : ¬ Int32.ofInt z < 0 := fun q => hin (Or.inl q)
  obtain ⟨r', hr', cellV, g1, g2, g3, -⟩ := hvv
  have hcls := (hK.1 ci r hc).2
  obtain ⟨kA, comp, k1, k2, k3, -⟩ := (hK.2 j _ hj).2
  have hcomp : comp = G.1.1 ci := Option.some.inj (k3.symm.trans hcls.1)
  subst hcomp
  obtain ⟨kC, hkC, -⟩ := hcls.2
  refine W.aast hx hb ha (fun q h => by cases h) (fun h => by cases h) k1 k2 rfl hkC ⟨h0, by show _ < (arrV _ _ _).slots.size; rw [arrV_size]; exact hlt⟩ g1 (fun q h => by rw [g3] at h; cases h) (by rw [g2]; exact hkC) (by rw [g2]; exact va_assign hcls) rfl rfl d fun H1 e z1 oq => ?_
  refine kk H1 _ ls (h2 H1 ?_ z1 oq) (hS.put z1 oq hA) hL
  show H1[a]? = some (vp_cell _ _)
  rw [e, vp_cell_q, vp_cell_q, arrV_store]
  congr 2
  funext q
  rw [e1]
  by_cases hq : q = z.toNat
  · subst hq
    simp [updV, va_up, va_rf]
  · simp [updV, va_up, hq]
/-- the array's length -/
theorem x_alen (B : XB Γ G cc own nL rm A) {j a n : Nat} {ty : FieldType} {f : Int → Int} {v : Int} (d : decode cc pc = .ok (.arraylength, 1)) (hj : (xTys G)[j]? = some (G.2 j, ty)) (hn : (n : Int) = v) (hv : ∀ H, P H → aat G j a n f H)
    (kk : XJ Γ kc ks P (pc + 1) L (vi v :: st)) : XJ Γ kc ks P pc L (.ref a :: st) := by
  obtain ⟨p, l, e, R, s, m, args, below, meth, c, A', Q⟩ := Γ
  obtain ⟨hx, hb, hml, ho, hts, ⟨hK, hN⟩, hR, hA⟩ := B
  intro H locs ls hP hS hL
  refine va_alen (ws := [(a, .inl (G.2 j, n, .inl (fun k => Int32.ofInt (f (k : Int)))))]) (tys := xTys G) (v := Int32.ofInt v) hx hb hK (wone (hv H hP)) 0 j rfl hj ?_ d (kk H locs ls hP hS hL)
  rw [← hn, Int32.ofInt_eq_ofNat]
-- ends
theorem x_iret (B : XB Γ G cc own nL rm A) {nm : String} {post : Option Value → Heap → Prop} (R : XR Γ nm (some .int) kc ks (xQ post A)) {z : Int} (d : decode cc pc = .ok (.ireturn, 1)) (hq : ∀ H, P H → post (some (vi z)) H) : XJ Γ kc ks P pc L [vi z] := by
  obtain ⟨p, l, e, R', s, m, args, below, meth, c, A', Q⟩ := Γ
  obtain ⟨hx, hb, hml, ho, hts, ⟨hK, hN⟩, hR, hAA⟩ := B
  obtain ⟨hr, hlk, hnm, hQ⟩ := R
  subst hAA
  subst hQ
  intro H locs ls hP hS hL
  exact W.iret hx hb hr (fun t ht _ => ⟨_, rfl, by rw [ht]; exact hq H hP, hS.F ht⟩) hS.2.2 d hlk
theorem x_zret (B : XB Γ G cc own nL rm A) {nm : String} {post : Option Value → Heap → Prop} (R : XR Γ nm (some .boolean) kc ks (xQ post A)) {z : Int} (d : decode cc pc = .ok (.ireturn, 1)) (hn : narrow .boolean (vi z) = vi z) (hq : ∀ H, P H → post (some (vi z)) H) : XJ Γ kc ks P pc L [vi z] := by
  obtain ⟨p, l, e, R', s, m, args, below, meth, c, A', Q⟩ := Γ
  obtain ⟨hx, hb, hml, ho, hts, ⟨hK, hN⟩, hR, hAA⟩ := B
  obtain ⟨hr, hlk, hnm, hQ⟩ := R
  subst hAA
  subst hQ
  intro H locs ls hP hS hL
  exact W.zret hx hb hr hn (fun t ht _ => ⟨_, rfl, by rw [ht]; exact hq H hP, hS.F ht⟩) hS.2.2 d hlk
theorem x_vret (B : XB Γ G cc own nL rm A) {nm : String} {post : Option Value → Heap → Prop} (R : XR Γ nm none kc ks (xQ post A)) (d : decode cc pc = .ok (.return_, 1)) (hq : ∀ H, P H → post none H) : XJ Γ kc ks P pc L [] := by
  obtain ⟨p, l, e, R', s, m, args, below, meth, c, A', Q⟩ := Γ
  obtain ⟨hx, hb, hml, ho, hts, ⟨hK, hN⟩, hR, hAA⟩ := B
  obtain ⟨hr, hlk, hnm, hQ⟩ := R
  subst hAA
  subst hQ
  intro H locs ls hP hS hL
  exact W.vret hx hb hr (fun t ht _ => ⟨_, rfl, by rw [ht]; exact hq H hP, hS.F ht⟩) hS.2.2 d hlk
/-- more room than was used -/
theorem x_widen {k n : Nat} (h1 : kc ≤ k) (h2 : ks ≤ n) (kk : XJ Γ k n P pc L st) : XJ Γ kc ks P pc L st := by
  obtain ⟨p, l, e, R', s, m, args, below, meth, c, A', Q⟩ := Γ
  intro H locs ls hP hS hL
  exact W.widen h1 h2 (kk H locs ls hP hS hL)
end XR4

-- calls
theorem x_blind {G : xG} {av : List Value} {P : Heap → Prop} : FrameBlind (va_Pc av (fun U => P U.heap ∧ xK G U)) := fun _ _ _ _ h => ⟨h.1, h.2.1, h.2.2.same rfl⟩
section XR5
variable {p : Program} {l : Launch} {e : Env} {R : Room} {s : State} {m : MethodId} {args : Array Value} {below : List Frame} {meth : Method} {c : Code} {A A0 : Nat → Prop} {Q : State → Prop} {H : Heap} {locs : List Loc} {ls : Array Slot} {kc ks mc ms pc : Nat} {L : List (Nat × Value)} {st st0 : List Value} {post : Option Value → Heap → Prop} {a : Array Value}
theorem xj_after (hr : va_Run p l e R s m args below meth c H locs kc ks mc ms (F0 m pc ls st0) st (xQ post A0 a) A0) (hS : va_S A s.heap H locs) (hAA : ∀ q, A0 q → A q)
    (kk : ∀ (v : Option Value) (H1 : Heap) (locs1 : List Loc), post v H1 → H.size ≤ H1.size → (∀ q : Nat, q < H.size → ¬ A0 q → H1[q]? = H[q]?) → va_S A s.heap H1 locs1 → W p l e R s m args below meth c H1 locs1 (kc + mc) (ks + ms) Q (F0 m (pc + 3) ls (v.toList ++ st))) : W p l e R s m args below meth c H locs kc ks Q (F0 m pc ls st0) := by
  intro T hT X
  obtain ⟨v, st₀, t, T', L, h0, X', hL, e1, e2, ⟨v', hv, hp, hz, hk⟩, st⟩ := hr T hT X
  cases hv
  rw [h0] at hz hk
  obtain ⟨t2, a1, b1⟩ := kk v T'.heap (locs ++ L) (by rw [e1]; exact hp) (by rw [e1]; exact hz) (fun q h1 h2 => by rw [e1]; exact hk q h1 h2)
    ⟨Nat.le_trans hS.1 (by rw [e1]; exact hz), fun q h1 h2 => by rw [e1, hk q (Nat.lt_of_lt_of_le h1 hS.1) (fun z => h2 (hAA q z))]; exact hS.2.1 q h1 h2, fun q hq => by
      rcases List.mem_append.mp hq with h | h
      · exact hS.2.2 q h
      · exact hAA _ (hL q h)⟩ T' rfl X'
  exact ⟨t2, st t2 a1, b1⟩
end XR5
section XR6
variable {Γ : xE} {G : xG} {cc : ByteArray} {own : String} {nL : Nat} {rm : Room} {A : Nat → Prop} {kc ks pc : Nat} {P : Heap → Prop} {L : List (Nat × Value)} {st st0 : List Value}
variable {idx : Nat} {y : MethodName} {bytes : ByteArray} {nL' : Nat} {ret : Option FieldType} {ci n : Nat} {rm' : Room} {mc ms b : Nat} {As : List Value} {P0 : Heap → Prop} {post : Option Value → Heap → Prop} {A0 : Nat → Prop}
theorem x_callVg (B : XB Γ G cc own nL rm A) (lk : LkV own idx y bytes nL' ret ci n) (hM : ∀ l, CT G l y bytes nL' ret rm' mc ms (.ref b :: As) P0 post A0)
    (d : decode cc pc = .ok (.invokevirtual idx, 3)) (hst : st0 = As.reverse ++ .ref b :: st) (hn : As.length = n) (hR : rm'.cells = mc ∧ rm'.slots = ms ∧ rm'.frames + 1 ≤ rm.frames ∧ 8 + (nL' + 11) + rm'.locals ≤ rm.locals)
    (hf : kc + mc ≤ rm.cells ∧ ks + ms ≤ rm.slots) (hw : (st.map fun v => v.category).sum ≤ 8) (hAA : ∀ q, A0 q → A q) (hP : ∀ H, P H → P0 H ∧ ∃ fs, oat G b ci fs H) {ι : Type} {v : ι → Option Value} {P' : ι → Heap → Prop}
    (hb : ∀ v' H H1, P H → post v' H1 → H.size ≤ H1.size → (∀ q : Nat, q < H.size → ¬ A0 q → H1[q]? = H[q]?) → ∃ i, v' = v i ∧ P' i H1)
    (kk : ∀ i, XJ Γ (kc + mc) (ks + ms) (P' i) (pc + 3) L ((v i).toList ++ st)) : XJ Γ kc ks P pc L st0 := by
  obtain ⟨p, l, e, R, s, m, args, below, meth, c, A', Q⟩ := Γ
  obtain ⟨hx, hb0, hml, ho, hts, hK, hRR, hA⟩ := B
  obtain ⟨w1, w2, w3, w4, w5, w6, T, N, hc⟩ := lk
  subst hA
  subst hRR
  subst hst
  intro H locs ls hPH hS hL
  obtain ⟨h0, fs, ho1⟩ := hP H hPH
  have hG : GoodIn xw (Cond.code y bytes nL' ret :: xw) := xw_self (fun w h => by
    rcases List.mem_cons.mp h with h | h
    · rw [h]; exact w5
    · exact h)
  refine xj_after (va_runV (As := As) (rest := st) ⟨hx, hb0, hml, ho, hts⟩ (hM l) ⟨callB_of n hts hG rfl hR.1 hR.2.1 (hts _ w4) (hts _ w1) w6 hR.2.2, hts _ w2, hts _ w3⟩ ⟨x_blind, va_recv hK.1 (wone ho1) (ci := ci) (q0 := 0) hc rfl, fun U hU hW => ⟨rfl, by rw [hU]; exact h0, hK.warm hW⟩⟩ rfl hn (hL.1.1.trans hml) rfl (lv_room hw) d hf) hS hAA (fun v' H1 locs1 h1 h2 h3 h4 => ?_)
  obtain ⟨i, e1, e2⟩ := hb v' H H1 hPH h1 h2 h3
  rw [e1]
  exact kk i H1 locs1 ls e2 h4 hL
theorem x_callSg (B : XB Γ G cc own nL rm A) (lk : LkS own idx y bytes nL' ret n) (hM : ∀ l, CT G l y bytes nL' ret rm' mc ms As P0 post A0)
    (d : decode cc pc = .ok (.invokestatic idx, 3)) (hst : st0 = As.reverse ++ st) (hn : As.length = n) (hR : rm'.cells = mc ∧ rm'.slots = ms ∧ rm'.frames + 1 ≤ rm.frames ∧ 8 + (nL' + 11) + rm'.locals ≤ rm.locals)
    (hf : kc + mc ≤ rm.cells ∧ ks + ms ≤ rm.slots) (hw : (st.map fun v => v.category).sum ≤ 8) (hAA : ∀ q, A0 q → A q) (hP : ∀ H, P H → P0 H) {ι : Type} {v : ι → Option Value} {P' : ι → Heap → Prop}
    (hb : ∀ v' H H1, P H → post v' H1 → H.size ≤ H1.size → (∀ q : Nat, q < H.size → ¬ A0 q → H1[q]? = H[q]?) → ∃ i, v' = v i ∧ P' i H1)
    (kk : ∀ i, XJ Γ (kc + mc) (ks + ms) (P' i) (pc + 3) L ((v i).toList ++ st)) : XJ Γ kc ks P pc L st0 := by
  obtain ⟨p, l, e, R, s, m, args, below, meth, c, A', Q⟩ := Γ
  obtain ⟨hx, hb0, hml, ho, hts, hK, hRR, hA⟩ := B
  obtain ⟨w1, w2, w4, w5, w6⟩ := lk
  subst hA
  subst hRR
  subst hst
  intro H locs ls hPH hS hL
  have hG : GoodIn xw (Cond.code y bytes nL' ret :: xw) := xw_self (fun w h => by
    rcases List.mem_cons.mp h with h | h
    · rw [h]; exact w5
    · exact h)
  refine xj_after (va_runS (As := As) (rest := st) ⟨hx, hb0, hml, ho, hts⟩ (hM l) ⟨callB_of n hts hG rfl hR.1 hR.2.1 (hts _ w4) (hts _ w1) w6 hR.2.2, hts _ w2⟩ ⟨x_blind, fun U hU hW => ⟨rfl, by rw [hU]; exact hP H hPH, hK.warm hW⟩⟩ rfl hn (hL.1.1.trans hml) rfl (lv_room hw) d hf) hS hAA (fun v' H1 locs1 h1 h2 h3 h4 => ?_)
  obtain ⟨i, e1, e2⟩ := hb v' H H1 hPH h1 h2 h3
  rw [e1]
  exact kk i H1 locs1 ls e2 h4 hL
theorem x_callSNg (B : XB Γ G cc own nL rm A) {host : String} (lk : LkSN y bytes nL' ret n) (hnest : ∀ s, xN s → va_Nw (.methodLinkNest own idx y host) s) (hM : ∀ l, CT G l y bytes nL' ret rm' mc ms As P0 post A0)
    (d : decode cc pc = .ok (.invokestatic idx, 3)) (hst : st0 = As.reverse ++ st) (hn : As.length = n) (hR : rm'.cells = mc ∧ rm'.slots = ms ∧ rm'.frames + 1 ≤ rm.frames ∧ 8 + (nL' + 11) + rm'.locals ≤ rm.locals)
    (hf : kc + mc ≤ rm.cells ∧ ks + ms ≤ rm.slots) (hw : (st.map fun v => v.category).sum ≤ 8) (hAA : ∀ q, A0 q → A q) (hP : ∀ H, P H → P0 H) {ι : Type} {v : ι → Option Value} {P' : ι → Heap → Prop}
    (hb : ∀ v' H H1, P H → post v' H1 → H.size ≤ H1.size → (∀ q : Nat, q < H.size → ¬ A0 q → H1[q]? = H[q]?) → ∃ i, v' = v i ∧ P' i H1)
    (kk : ∀ i, XJ Γ (kc + mc) (ks + ms) (P' i) (pc + 3) L ((v i).toList ++ st)) : XJ Γ kc ks P pc L st0 := by
  obtain ⟨p, l, e, R, s, m, args, below, meth, c, A', Q⟩ := Γ
  obtain ⟨hx, hb0, hml, ho, hts, hK, hRR, hA⟩ := B
  obtain ⟨w2, w4, w5, w6⟩ := lk
  subst hA
  subst hRR
  subst hst
  intro H locs ls hPH hS hL
  have hG : GoodIn xw (Cond.code y bytes nL' ret :: xw) := xw_self (fun w h => by
    rcases List.mem_cons.mp h with h | h
    · rw [h]; exact w5
    · exact h)
  refine xj_after (va_runSN (As := As) (rest := st) ⟨hx, hb0, hml, ho, hts⟩ (hM l) ⟨va_cnB n hts hG rfl hR.1 hR.2.1 (hnest s hK.2) (hts _ w4) w6 hR.2.2, hts _ w2, trivial⟩ ⟨x_blind, fun U hU hW => ⟨rfl, by rw [hU]; exact hP H hPH, hK.warm hW⟩⟩ rfl hn (hL.1.1.trans hml) rfl (lv_room hw) d hf) hS hAA (fun v' H1 locs1 h1 h2 h3 h4 => ?_)
  obtain ⟨i, e1, e2⟩ := hb v' H H1 hPH h1 h2 h3
  rw [e1]
  exact kk i H1 locs1 ls e2 h4 hL
theorem x_callIg (B : XB Γ G cc own nL rm A) (lk : LkI y bytes nL' n) (hlink : Cond.methodLink own idx y ∈ xw) (hM : ∀ l, CT G l y bytes nL' none rm' mc ms (.ref b :: As) P0 post A0)
    (d : decode cc pc = .ok (.invokespecial idx, 3)) (hst : st0 = As.reverse ++ .ref b :: st) (hn : As.length = n) (hR : rm'.cells = mc ∧ rm'.slots = ms ∧ rm'.frames + 1 ≤ rm.frames ∧ 8 + (nL' + 11) + rm'.locals ≤ rm.locals)
    (hf : kc + mc ≤ rm.cells ∧ ks + ms ≤ rm.slots) (hw : (st.map fun v => v.category).sum ≤ 8) (hAA : ∀ q, A0 q → A q) (hP : ∀ H, P H → P0 H) {P' : Heap → Prop}
    (hb : ∀ v' H H1, P H → post v' H1 → H.size ≤ H1.size → (∀ q : Nat, q < H.size → ¬ A0 q → H1[q]? = H[q]?) → v' = none ∧ P' H1)
    (kk : XJ Γ (kc + mc) (ks + ms) P' (pc + 3) L st) : XJ Γ kc ks P pc L st0 := by
  obtain ⟨p, l, e, R, s, m, args, below, meth, c, A', Q⟩ := Γ
  obtain ⟨hx, hb0, hml, ho, hts, hK, hRR, hA⟩ := B
  obtain ⟨w2, w4, w5, w6, w7⟩ := lk
  subst hA
  subst hRR
  subst hst
  intro H locs ls hPH hS hL
  have hG : GoodIn xw (Cond.code y bytes nL' none :: xw) := xw_self (fun w h => by
    rcases List.mem_cons.mp h with h | h
    · rw [h]; exact w5
    · exact h)
  refine xj_after (va_runI (As := As) (rest := st) ⟨hx, hb0, hml, ho, hts⟩ (hM l) ⟨callB_of n hts hG rfl hR.1 hR.2.1 (hts _ w4) (hts _ hlink) w6 hR.2.2, w7, hts _ w2⟩ ⟨x_blind, fun U hU hW => ⟨rfl, by rw [hU]; exact hP H hPH, hK.warm hW⟩⟩ rfl hn (hL.1.1.trans hml) rfl (lv_room hw) d hf) hS hAA (fun v' H1 locs1 h1 h2 h3 h4 => ?_)
  obtain ⟨e1, e2⟩ := hb v' H H1 hPH h1 h2 h3
  rw [e1]
  exact kk H1 locs1 ls e2 h4 hL
theorem x_callINg (B : XB Γ G cc own nL rm A) {host : String} (lk : LkI y bytes nL' n) (hnest : ∀ s, xN s → va_Nw (.methodLinkNest own idx y host) s) (hM : ∀ l, CT G l y bytes nL' none rm' mc ms (.ref b :: As) P0 post A0)
    (d : decode cc pc = .ok (.invokespecial idx, 3)) (hst : st0 = As.reverse ++ .ref b :: st) (hn : As.length = n) (hR : rm'.cells = mc ∧ rm'.slots = ms ∧ rm'.frames + 1 ≤ rm.frames ∧ 8 + (nL' + 11) + rm'.locals ≤ rm.locals)
    (hf : kc + mc ≤ rm.cells ∧ ks + ms ≤ rm.slots) (hw : (st.map fun v => v.category).sum ≤ 8) (hAA : ∀ q, A0 q → A q) (hP : ∀ H, P H → P0 H) {P' : Heap → Prop}
    (hb : ∀ v' H H1, P H → post v' H1 → H.size ≤ H1.size → (∀ q : Nat, q < H.size → ¬ A0 q → H1[q]? = H[q]?) → v' = none ∧ P' H1)
    (kk : XJ Γ (kc + mc) (ks + ms) P' (pc + 3) L st) : XJ Γ kc ks P pc L st0 := by
  obtain ⟨p, l, e, R, s, m, args, below, meth, c, A', Q⟩ := Γ
  obtain ⟨hx, hb0, hml, ho, hts, hK, hRR, hA⟩ := B
  obtain ⟨w2, w4, w5, w6, w7⟩ := lk
  subst hA
  subst hRR
  subst hst
  intro H locs ls hPH hS hL
  have hG : GoodIn xw (Cond.code y bytes nL' none :: xw) := xw_self (fun w h => by
    rcases List.mem_cons.mp h with h | h
    · rw [h]; exact w5
    · exact h)
  refine xj_after (va_runIN (As := As) (rest := st) ⟨hx, hb0, hml, ho, hts⟩ (hM l) ⟨va_cnB n hts hG rfl hR.1 hR.2.1 (hnest s hK.2) (hts _ w4) w6 hR.2.2, w7, hts _ w2⟩ ⟨x_blind, fun U hU hW => ⟨rfl, by rw [hU]; exact hP H hPH, hK.warm hW⟩⟩ rfl hn (hL.1.1.trans hml) rfl (lv_room hw) d hf) hS hAA (fun v' H1 locs1 h1 h2 h3 h4 => ?_)
  obtain ⟨e1, e2⟩ := hb v' H H1 hPH h1 h2 h3
  rw [e1]
  exact kk H1 locs1 ls e2 h4 hL
/-- a call of a method of the same predicates: its P is ours, its end's P' is ours then; r: what it returns -/
theorem x_callV (B : XB Γ G cc own nL rm A) {P' : Heap → Prop} {r : Int} (lk : LkV own idx y bytes nL' ret ci n) (hM : ∀ l, CT G l y bytes nL' ret rm' 0 0 (.ref b :: As) P (fun v H => v = some (vi r) ∧ P' H) A)
    (d : decode cc pc = .ok (.invokevirtual idx, 3)) (hst : st0 = As.reverse ++ .ref b :: st) (hn : As.length = n) (hR : rm'.cells = 0 ∧ rm'.slots = 0 ∧ rm'.frames + 1 ≤ rm.frames ∧ 8 + (nL' + 11) + rm'.locals ≤ rm.locals)
    (hf : kc ≤ rm.cells ∧ ks ≤ rm.slots) (hw : (st.map fun v => v.category).sum ≤ 8) (hP : ∀ H, P H → ∃ fs, oat G b ci fs H)
    (kk : XJ Γ kc ks P' (pc + 3) L (vi r :: st)) : XJ Γ kc ks P pc L st0 :=
  x_callVg B lk hM d hst hn hR hf hw (fun _ h => h) (fun H h => ⟨h, hP H h⟩) (ι := Unit) (v := fun _ => some (vi r)) (P' := fun _ => P') (fun v' H H1 _ h _ _ => ⟨(), h.1, h.2⟩) (fun _ => kk)
theorem x_callVv (B : XB Γ G cc own nL rm A) {P' : Heap → Prop} (lk : LkV own idx y bytes nL' ret ci n) (hM : ∀ l, CT G l y bytes nL' ret rm' 0 0 (.ref b :: As) P (fun v H => v = none ∧ P' H) A)
    (d : decode cc pc = .ok (.invokevirtual idx, 3)) (hst : st0 = As.reverse ++ .ref b :: st) (hn : As.length = n) (hR : rm'.cells = 0 ∧ rm'.slots = 0 ∧ rm'.frames + 1 ≤ rm.frames ∧ 8 + (nL' + 11) + rm'.locals ≤ rm.locals)
    (hf : kc ≤ rm.cells ∧ ks ≤ rm.slots) (hw : (st.map fun v => v.category).sum ≤ 8) (hP : ∀ H, P H → ∃ fs, oat G b ci fs H)
    (kk : XJ Γ kc ks P' (pc + 3) L st) : XJ Γ kc ks P pc L st0 :=
  x_callVg B lk hM d hst hn hR hf hw (fun _ h => h) (fun H h => ⟨h, hP H h⟩) (ι := Unit) (v := fun _ => none) (P' := fun _ => P') (fun v' H H1 _ h _ _ => ⟨(), h.1, h.2⟩) (fun _ => kk)
/-- a call of a static method that looks at no heap -/
theorem x_callS (B : XB Γ G cc own nL rm A) {r : Int} (lk : LkS own idx y bytes nL' ret n) (hM : ∀ l, CT G l y bytes nL' ret rm' 0 0 As (fun _ => True) (fun v _ => v = some (vi r)) (fun _ => False))
    (d : decode cc pc = .ok (.invokestatic idx, 3)) (hst : st0 = As.reverse ++ st) (hn : As.length = n) (hR : rm'.cells = 0 ∧ rm'.slots = 0 ∧ rm'.frames + 1 ≤ rm.frames ∧ 8 + (nL' + 11) + rm'.locals ≤ rm.locals)
    (hf : kc ≤ rm.cells ∧ ks ≤ rm.slots) (hw : (st.map fun v => v.category).sum ≤ 8) (hP : ∀ H H1, P H → H.size ≤ H1.size → (∀ q : Nat, q < H.size → H1[q]? = H[q]?) → P H1)
    (kk : XJ Γ kc ks P (pc + 3) L (vi r :: st)) : XJ Γ kc ks P pc L st0 :=
  x_callSg B lk hM d hst hn hR hf hw (fun _ h => h.elim) (fun _ _ => trivial) (ι := Unit) (v := fun _ => some (vi r)) (P' := fun _ => P) (fun v' H H1 hp h hz hk => ⟨(), h, hP H H1 hp hz (fun q hq => hk q hq (fun h => h))⟩) (fun _ => kk)
end XR6
end
