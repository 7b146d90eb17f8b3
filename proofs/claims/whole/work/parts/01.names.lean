-- ===== PART A: goes FIRST, ahead of the names: the tables' words, and 'selects' of the private methods out of them =====
/-- a private method of a class that the tables say can be made, by its rows of tables_1 -/
def lw_okq (q : MethodName × Nat) : Prop := (q.1.cls ≠ "java/lang/invoke/MethodHandle" ∧ q.1.cls ≠ "java/lang/invoke/VarHandle") ∧ Cond.instantiable q.1.cls q.2 ∈ tables_1 ∧ Cond.privateMethod q.1 ∈ tables_1 ∧ Cond.instanceMethod q.1 ∈ tables_1
theorem lw_p0 : lw_okq (⟨"SinkingArchive$Reader", "takes", "(I)Z"⟩, 10) := ⟨⟨by decide +kernel, by decide +kernel⟩, List.mem_of_getElem? (i := 24) (by decide +kernel), List.mem_of_getElem? (i := 389) (by decide +kernel), List.mem_of_getElem? (i := 390) (by decide +kernel)⟩
theorem lw_p1 : lw_okq (⟨"SinkingArchive$Reader", "takesPart", "(I)Z"⟩, 10) := ⟨⟨by decide +kernel, by decide +kernel⟩, List.mem_of_getElem? (i := 24) (by decide +kernel), List.mem_of_getElem? (i := 393) (by decide +kernel), List.mem_of_getElem? (i := 394) (by decide +kernel)⟩
theorem lw_p2 : lw_okq (⟨"SinkingArchive$Reader", "hasRoom", "(I)Z"⟩, 10) := ⟨⟨by decide +kernel, by decide +kernel⟩, List.mem_of_getElem? (i := 24) (by decide +kernel), List.mem_of_getElem? (i := 397) (by decide +kernel), List.mem_of_getElem? (i := 398) (by decide +kernel)⟩
theorem lw_p3 : lw_okq (⟨"SinkingArchive$Reader", "someoneCanCite", "()Z"⟩, 10) := ⟨⟨by decide +kernel, by decide +kernel⟩, List.mem_of_getElem? (i := 24) (by decide +kernel), List.mem_of_getElem? (i := 401) (by decide +kernel), List.mem_of_getElem? (i := 402) (by decide +kernel)⟩
theorem lw_p4 : lw_okq (⟨"SinkingArchive$Reader", "canCite", "(I)Z"⟩, 10) := ⟨⟨by decide +kernel, by decide +kernel⟩, List.mem_of_getElem? (i := 24) (by decide +kernel), List.mem_of_getElem? (i := 405) (by decide +kernel), List.mem_of_getElem? (i := 406) (by decide +kernel)⟩
theorem lw_p5 : lw_okq (⟨"SinkingArchive$Reader", "citableBy", "(I)I"⟩, 10) := ⟨⟨by decide +kernel, by decide +kernel⟩, List.mem_of_getElem? (i := 24) (by decide +kernel), List.mem_of_getElem? (i := 409) (by decide +kernel), List.mem_of_getElem? (i := 410) (by decide +kernel)⟩
theorem lw_p6 : lw_okq (⟨"SinkingArchive$Reader", "takesFigure", "(I)Z"⟩, 10) := ⟨⟨by decide +kernel, by decide +kernel⟩, List.mem_of_getElem? (i := 24) (by decide +kernel), List.mem_of_getElem? (i := 413) (by decide +kernel), List.mem_of_getElem? (i := 414) (by decide +kernel)⟩
theorem lw_p7 : lw_okq (⟨"SinkingArchive$Reader", "takesFloors", "(I)Z"⟩, 10) := ⟨⟨by decide +kernel, by decide +kernel⟩, List.mem_of_getElem? (i := 24) (by decide +kernel), List.mem_of_getElem? (i := 417) (by decide +kernel), List.mem_of_getElem? (i := 418) (by decide +kernel)⟩
theorem lw_p8 : lw_okq (⟨"SinkingArchive$Reader", "takesTens", "(I)Z"⟩, 10) := ⟨⟨by decide +kernel, by decide +kernel⟩, List.mem_of_getElem? (i := 24) (by decide +kernel), List.mem_of_getElem? (i := 421) (by decide +kernel), List.mem_of_getElem? (i := 422) (by decide +kernel)⟩
theorem lw_p9 : lw_okq (⟨"SinkingArchive$Reader", "takesOnes", "(I)Z"⟩, 10) := ⟨⟨by decide +kernel, by decide +kernel⟩, List.mem_of_getElem? (i := 24) (by decide +kernel), List.mem_of_getElem? (i := 425) (by decide +kernel), List.mem_of_getElem? (i := 426) (by decide +kernel)⟩
theorem lw_p10 : lw_okq (⟨"SinkingArchive$Reader", "takesWeight", "(I)Z"⟩, 10) := ⟨⟨by decide +kernel, by decide +kernel⟩, List.mem_of_getElem? (i := 24) (by decide +kernel), List.mem_of_getElem? (i := 429) (by decide +kernel), List.mem_of_getElem? (i := 430) (by decide +kernel)⟩
theorem lw_p11 : lw_okq (⟨"SinkingArchive$Reader", "takesWorth", "(I)Z"⟩, 10) := ⟨⟨by decide +kernel, by decide +kernel⟩, List.mem_of_getElem? (i := 24) (by decide +kernel), List.mem_of_getElem? (i := 433) (by decide +kernel), List.mem_of_getElem? (i := 434) (by decide +kernel)⟩
theorem lw_p12 : lw_okq (⟨"SinkingArchive$Reader", "takesAsked", "(I)Z"⟩, 10) := ⟨⟨by decide +kernel, by decide +kernel⟩, List.mem_of_getElem? (i := 24) (by decide +kernel), List.mem_of_getElem? (i := 437) (by decide +kernel), List.mem_of_getElem? (i := 438) (by decide +kernel)⟩
theorem lw_p13 : lw_okq (⟨"SinkingArchive$Reader", "takesKind", "(I)Z"⟩, 10) := ⟨⟨by decide +kernel, by decide +kernel⟩, List.mem_of_getElem? (i := 24) (by decide +kernel), List.mem_of_getElem? (i := 441) (by decide +kernel), List.mem_of_getElem? (i := 442) (by decide +kernel)⟩
theorem lw_p14 : lw_okq (⟨"SinkingArchive$Reader", "placeAhead", "()I"⟩, 10) := ⟨⟨by decide +kernel, by decide +kernel⟩, List.mem_of_getElem? (i := 24) (by decide +kernel), List.mem_of_getElem? (i := 445) (by decide +kernel), List.mem_of_getElem? (i := 446) (by decide +kernel)⟩
theorem lw_p15 : lw_okq (⟨"SinkingArchive$Reader", "bearsIt", "(I)Z"⟩, 10) := ⟨⟨by decide +kernel, by decide +kernel⟩, List.mem_of_getElem? (i := 24) (by decide +kernel), List.mem_of_getElem? (i := 449) (by decide +kernel), List.mem_of_getElem? (i := 450) (by decide +kernel)⟩
def lw_privs_1 : List (MethodName × Nat) := [(⟨"SinkingArchive$Reader", "takes", "(I)Z"⟩, 10), (⟨"SinkingArchive$Reader", "takesPart", "(I)Z"⟩, 10), (⟨"SinkingArchive$Reader", "hasRoom", "(I)Z"⟩, 10), (⟨"SinkingArchive$Reader", "someoneCanCite", "()Z"⟩, 10), (⟨"SinkingArchive$Reader", "canCite", "(I)Z"⟩, 10), (⟨"SinkingArchive$Reader", "citableBy", "(I)I"⟩, 10), (⟨"SinkingArchive$Reader", "takesFigure", "(I)Z"⟩, 10), (⟨"SinkingArchive$Reader", "takesFloors", "(I)Z"⟩, 10), (⟨"SinkingArchive$Reader", "takesTens", "(I)Z"⟩, 10), (⟨"SinkingArchive$Reader", "takesOnes", "(I)Z"⟩, 10), (⟨"SinkingArchive$Reader", "takesWeight", "(I)Z"⟩, 10), (⟨"SinkingArchive$Reader", "takesWorth", "(I)Z"⟩, 10), (⟨"SinkingArchive$Reader", "takesAsked", "(I)Z"⟩, 10), (⟨"SinkingArchive$Reader", "takesKind", "(I)Z"⟩, 10), (⟨"SinkingArchive$Reader", "placeAhead", "()I"⟩, 10), (⟨"SinkingArchive$Reader", "bearsIt", "(I)Z"⟩, 10)]
theorem lw_r1 : ∀ q ∈ lw_privs_1, lw_okq q := List.forall_mem_cons.mpr ⟨lw_p0, List.forall_mem_cons.mpr ⟨lw_p1, List.forall_mem_cons.mpr ⟨lw_p2, List.forall_mem_cons.mpr ⟨lw_p3, List.forall_mem_cons.mpr ⟨lw_p4, List.forall_mem_cons.mpr ⟨lw_p5, List.forall_mem_cons.mpr ⟨lw_p6, List.forall_mem_cons.mpr ⟨lw_p7, List.forall_mem_cons.mpr ⟨lw_p8, List.forall_mem_cons.mpr ⟨lw_p9, List.forall_mem_cons.mpr ⟨lw_p10, List.forall_mem_cons.mpr ⟨lw_p11, List.forall_mem_cons.mpr ⟨lw_p12, List.forall_mem_cons.mpr ⟨lw_p13, List.forall_mem_cons.mpr ⟨lw_p14, List.forall_mem_cons.mpr ⟨lw_p15, fun _ h => absurd h List.not_mem_nil⟩⟩⟩⟩⟩⟩⟩⟩⟩⟩⟩⟩⟩⟩⟩⟩
theorem lw_p16 : lw_okq (⟨"SinkingArchive$Reader", "takesPlace", "(I)Z"⟩, 10) := ⟨⟨by decide +kernel, by decide +kernel⟩, List.mem_of_getElem? (i := 24) (by decide +kernel), List.mem_of_getElem? (i := 453) (by decide +kernel), List.mem_of_getElem? (i := 454) (by decide +kernel)⟩
theorem lw_p17 : lw_okq (⟨"SinkingArchive$Reader", "takesCiting", "(I)Z"⟩, 10) := ⟨⟨by decide +kernel, by decide +kernel⟩, List.mem_of_getElem? (i := 24) (by decide +kernel), List.mem_of_getElem? (i := 457) (by decide +kernel), List.mem_of_getElem? (i := 458) (by decide +kernel)⟩
theorem lw_p18 : lw_okq (⟨"SinkingArchive$Reader", "takesCited", "(I)Z"⟩, 10) := ⟨⟨by decide +kernel, by decide +kernel⟩, List.mem_of_getElem? (i := 24) (by decide +kernel), List.mem_of_getElem? (i := 461) (by decide +kernel), List.mem_of_getElem? (i := 462) (by decide +kernel)⟩
theorem lw_p19 : lw_okq (⟨"SinkingArchive$Standing", "copyRecords", "([I[I[I)V"⟩, 7) := ⟨⟨by decide +kernel, by decide +kernel⟩, List.mem_of_getElem? (i := 127) (by decide +kernel), List.mem_of_getElem? (i := 476) (by decide +kernel), List.mem_of_getElem? (i := 477) (by decide +kernel)⟩
theorem lw_p20 : lw_okq (⟨"SinkingArchive", "isFloor", "(I)Z"⟩, 13) := ⟨⟨by decide +kernel, by decide +kernel⟩, List.mem_of_getElem? (i := 16) (by decide +kernel), List.mem_of_getElem? (i := 510) (by decide +kernel), List.mem_of_getElem? (i := 511) (by decide +kernel)⟩
theorem lw_p21 : lw_okq (⟨"SinkingArchive", "isRecord", "(I)Z"⟩, 13) := ⟨⟨by decide +kernel, by decide +kernel⟩, List.mem_of_getElem? (i := 16) (by decide +kernel), List.mem_of_getElem? (i := 527) (by decide +kernel), List.mem_of_getElem? (i := 528) (by decide +kernel)⟩
theorem lw_p22 : lw_okq (⟨"SinkingArchive$Standing", "isJoined", "(I)Z"⟩, 7) := ⟨⟨by decide +kernel, by decide +kernel⟩, List.mem_of_getElem? (i := 127) (by decide +kernel), List.mem_of_getElem? (i := 555) (by decide +kernel), List.mem_of_getElem? (i := 556) (by decide +kernel)⟩
theorem lw_p23 : lw_okq (⟨"SinkingArchive", "bearsMore", "(II)Z"⟩, 13) := ⟨⟨by decide +kernel, by decide +kernel⟩, List.mem_of_getElem? (i := 16) (by decide +kernel), List.mem_of_getElem? (i := 559) (by decide +kernel), List.mem_of_getElem? (i := 560) (by decide +kernel)⟩
theorem lw_p24 : lw_okq (⟨"SinkingArchive$Acts", "forgetFirst", "()V"⟩, 2) := ⟨⟨by decide +kernel, by decide +kernel⟩, List.mem_of_getElem? (i := 174) (by decide +kernel), List.mem_of_getElem? (i := 567) (by decide +kernel), List.mem_of_getElem? (i := 568) (by decide +kernel)⟩
theorem lw_p25 : lw_okq (⟨"SinkingArchive", "citingThere", "(I)I"⟩, 13) := ⟨⟨by decide +kernel, by decide +kernel⟩, List.mem_of_getElem? (i := 16) (by decide +kernel), List.mem_of_getElem? (i := 596) (by decide +kernel), List.mem_of_getElem? (i := 597) (by decide +kernel)⟩
theorem lw_p26 : lw_okq (⟨"SinkingArchive", "planRefusal", "(I)I"⟩, 13) := ⟨⟨by decide +kernel, by decide +kernel⟩, List.mem_of_getElem? (i := 16) (by decide +kernel), List.mem_of_getElem? (i := 616) (by decide +kernel), List.mem_of_getElem? (i := 617) (by decide +kernel)⟩
theorem lw_p27 : lw_okq (⟨"SinkingArchive", "thereCount", "()I"⟩, 13) := ⟨⟨by decide +kernel, by decide +kernel⟩, List.mem_of_getElem? (i := 16) (by decide +kernel), List.mem_of_getElem? (i := 620) (by decide +kernel), List.mem_of_getElem? (i := 621) (by decide +kernel)⟩
theorem lw_p28 : lw_okq (⟨"SinkingArchive", "makePlan", "(I)V"⟩, 13) := ⟨⟨by decide +kernel, by decide +kernel⟩, List.mem_of_getElem? (i := 16) (by decide +kernel), List.mem_of_getElem? (i := 624) (by decide +kernel), List.mem_of_getElem? (i := 625) (by decide +kernel)⟩
theorem lw_p29 : lw_okq (⟨"SinkingArchive$Planner", "note", "(II)V"⟩, 13) := ⟨⟨by decide +kernel, by decide +kernel⟩, List.mem_of_getElem? (i := 240) (by decide +kernel), List.mem_of_getElem? (i := 651) (by decide +kernel), List.mem_of_getElem? (i := 652) (by decide +kernel)⟩
theorem lw_p30 : lw_okq (⟨"SinkingArchive", "floorsSearched", "(II)I"⟩, 13) := ⟨⟨by decide +kernel, by decide +kernel⟩, List.mem_of_getElem? (i := 16) (by decide +kernel), List.mem_of_getElem? (i := 687) (by decide +kernel), List.mem_of_getElem? (i := 688) (by decide +kernel)⟩
theorem lw_p31 : lw_okq (⟨"SinkingArchive", "liesAbout", "(I)Z"⟩, 13) := ⟨⟨by decide +kernel, by decide +kernel⟩, List.mem_of_getElem? (i := 16) (by decide +kernel), List.mem_of_getElem? (i := 695) (by decide +kernel), List.mem_of_getElem? (i := 696) (by decide +kernel)⟩
def lw_privs_2 : List (MethodName × Nat) := [(⟨"SinkingArchive$Reader", "takesPlace", "(I)Z"⟩, 10), (⟨"SinkingArchive$Reader", "takesCiting", "(I)Z"⟩, 10), (⟨"SinkingArchive$Reader", "takesCited", "(I)Z"⟩, 10), (⟨"SinkingArchive$Standing", "copyRecords", "([I[I[I)V"⟩, 7), (⟨"SinkingArchive", "isFloor", "(I)Z"⟩, 13), (⟨"SinkingArchive", "isRecord", "(I)Z"⟩, 13), (⟨"SinkingArchive$Standing", "isJoined", "(I)Z"⟩, 7), (⟨"SinkingArchive", "bearsMore", "(II)Z"⟩, 13), (⟨"SinkingArchive$Acts", "forgetFirst", "()V"⟩, 2), (⟨"SinkingArchive", "citingThere", "(I)I"⟩, 13), (⟨"SinkingArchive", "planRefusal", "(I)I"⟩, 13), (⟨"SinkingArchive", "thereCount", "()I"⟩, 13), (⟨"SinkingArchive", "makePlan", "(I)V"⟩, 13), (⟨"SinkingArchive$Planner", "note", "(II)V"⟩, 13), (⟨"SinkingArchive", "floorsSearched", "(II)I"⟩, 13), (⟨"SinkingArchive", "liesAbout", "(I)Z"⟩, 13)]
theorem lw_r2 : ∀ q ∈ lw_privs_2, lw_okq q := List.forall_mem_cons.mpr ⟨lw_p16, List.forall_mem_cons.mpr ⟨lw_p17, List.forall_mem_cons.mpr ⟨lw_p18, List.forall_mem_cons.mpr ⟨lw_p19, List.forall_mem_cons.mpr ⟨lw_p20, List.forall_mem_cons.mpr ⟨lw_p21, List.forall_mem_cons.mpr ⟨lw_p22, List.forall_mem_cons.mpr ⟨lw_p23, List.forall_mem_cons.mpr ⟨lw_p24, List.forall_mem_cons.mpr ⟨lw_p25, List.forall_mem_cons.mpr ⟨lw_p26, List.forall_mem_cons.mpr ⟨lw_p27, List.forall_mem_cons.mpr ⟨lw_p28, List.forall_mem_cons.mpr ⟨lw_p29, List.forall_mem_cons.mpr ⟨lw_p30, List.forall_mem_cons.mpr ⟨lw_p31, fun _ h => absurd h List.not_mem_nil⟩⟩⟩⟩⟩⟩⟩⟩⟩⟩⟩⟩⟩⟩⟩⟩
theorem lw_p32 : lw_okq (⟨"SinkingArchive$Diver", "weigh", "(LSinkingArchive$Tower;LSinkingArchive$Standing;II)V"⟩, 3) := ⟨⟨by decide +kernel, by decide +kernel⟩, List.mem_of_getElem? (i := 313) (by decide +kernel), List.mem_of_getElem? (i := 717) (by decide +kernel), List.mem_of_getElem? (i := 718) (by decide +kernel)⟩
theorem lw_p33 : lw_okq (⟨"SinkingArchiveModel", "readTower", "()I"⟩, 40) := ⟨⟨by decide +kernel, by decide +kernel⟩, List.mem_of_getElem? (i := 749) (by decide +kernel), List.mem_of_getElem? (i := 893) (by decide +kernel), List.mem_of_getElem? (i := 894) (by decide +kernel)⟩
theorem lw_p34 : lw_okq (⟨"SinkingArchiveModel", "figure", "(II)I"⟩, 40) := ⟨⟨by decide +kernel, by decide +kernel⟩, List.mem_of_getElem? (i := 749) (by decide +kernel), List.mem_of_getElem? (i := 897) (by decide +kernel), List.mem_of_getElem? (i := 898) (by decide +kernel)⟩
theorem lw_p35 : lw_okq (⟨"SinkingArchiveModel", "readPart", "()Z"⟩, 40) := ⟨⟨by decide +kernel, by decide +kernel⟩, List.mem_of_getElem? (i := 749) (by decide +kernel), List.mem_of_getElem? (i := 901) (by decide +kernel), List.mem_of_getElem? (i := 902) (by decide +kernel)⟩
theorem lw_p36 : lw_okq (⟨"SinkingArchiveModel", "mostRoom", "()I"⟩, 40) := ⟨⟨by decide +kernel, by decide +kernel⟩, List.mem_of_getElem? (i := 749) (by decide +kernel), List.mem_of_getElem? (i := 905) (by decide +kernel), List.mem_of_getElem? (i := 906) (by decide +kernel)⟩
theorem lw_p37 : lw_okq (⟨"SinkingArchiveModel", "readRecord", "()Z"⟩, 40) := ⟨⟨by decide +kernel, by decide +kernel⟩, List.mem_of_getElem? (i := 749) (by decide +kernel), List.mem_of_getElem? (i := 909) (by decide +kernel), List.mem_of_getElem? (i := 910) (by decide +kernel)⟩
theorem lw_p38 : lw_okq (⟨"SinkingArchiveModel", "readFloor", "(III)I"⟩, 40) := ⟨⟨by decide +kernel, by decide +kernel⟩, List.mem_of_getElem? (i := 749) (by decide +kernel), List.mem_of_getElem? (i := 913) (by decide +kernel), List.mem_of_getElem? (i := 914) (by decide +kernel)⟩
theorem lw_p39 : lw_okq (⟨"SinkingArchiveModel", "hasAnyMore", "()Z"⟩, 40) := ⟨⟨by decide +kernel, by decide +kernel⟩, List.mem_of_getElem? (i := 749) (by decide +kernel), List.mem_of_getElem? (i := 917) (by decide +kernel), List.mem_of_getElem? (i := 918) (by decide +kernel)⟩
theorem lw_p40 : lw_okq (⟨"SinkingArchiveModel", "hasMore", "(I)Z"⟩, 40) := ⟨⟨by decide +kernel, by decide +kernel⟩, List.mem_of_getElem? (i := 749) (by decide +kernel), List.mem_of_getElem? (i := 921) (by decide +kernel), List.mem_of_getElem? (i := 922) (by decide +kernel)⟩
theorem lw_p41 : lw_okq (⟨"SinkingArchiveModel", "readCite", "()Z"⟩, 40) := ⟨⟨by decide +kernel, by decide +kernel⟩, List.mem_of_getElem? (i := 749) (by decide +kernel), List.mem_of_getElem? (i := 925) (by decide +kernel), List.mem_of_getElem? (i := 926) (by decide +kernel)⟩
theorem lw_p42 : lw_okq (⟨"SinkingArchiveModel", "there", "()I"⟩, 40) := ⟨⟨by decide +kernel, by decide +kernel⟩, List.mem_of_getElem? (i := 749) (by decide +kernel), List.mem_of_getElem? (i := 937) (by decide +kernel), List.mem_of_getElem? (i := 938) (by decide +kernel)⟩
theorem lw_p43 : lw_okq (⟨"SinkingArchiveModel", "keptNow", "()I"⟩, 40) := ⟨⟨by decide +kernel, by decide +kernel⟩, List.mem_of_getElem? (i := 749) (by decide +kernel), List.mem_of_getElem? (i := 944) (by decide +kernel), List.mem_of_getElem? (i := 945) (by decide +kernel)⟩
theorem lw_p44 : lw_okq (⟨"SinkingArchiveModel", "stepsNow", "()I"⟩, 40) := ⟨⟨by decide +kernel, by decide +kernel⟩, List.mem_of_getElem? (i := 749) (by decide +kernel), List.mem_of_getElem? (i := 948) (by decide +kernel), List.mem_of_getElem? (i := 949) (by decide +kernel)⟩
theorem lw_p45 : lw_okq (⟨"SinkingArchiveModel", "noFloor", "(I)Z"⟩, 40) := ⟨⟨by decide +kernel, by decide +kernel⟩, List.mem_of_getElem? (i := 749) (by decide +kernel), List.mem_of_getElem? (i := 956) (by decide +kernel), List.mem_of_getElem? (i := 957) (by decide +kernel)⟩
theorem lw_p46 : lw_okq (⟨"SinkingArchiveModel", "setOn", "(I)I"⟩, 40) := ⟨⟨by decide +kernel, by decide +kernel⟩, List.mem_of_getElem? (i := 749) (by decide +kernel), List.mem_of_getElem? (i := 960) (by decide +kernel), List.mem_of_getElem? (i := 961) (by decide +kernel)⟩
theorem lw_p47 : lw_okq (⟨"SinkingArchiveModel", "weightOf", "(I)I"⟩, 40) := ⟨⟨by decide +kernel, by decide +kernel⟩, List.mem_of_getElem? (i := 749) (by decide +kernel), List.mem_of_getElem? (i := 964) (by decide +kernel), List.mem_of_getElem? (i := 965) (by decide +kernel)⟩
def lw_privs_3 : List (MethodName × Nat) := [(⟨"SinkingArchive$Diver", "weigh", "(LSinkingArchive$Tower;LSinkingArchive$Standing;II)V"⟩, 3), (⟨"SinkingArchiveModel", "readTower", "()I"⟩, 40), (⟨"SinkingArchiveModel", "figure", "(II)I"⟩, 40), (⟨"SinkingArchiveModel", "readPart", "()Z"⟩, 40), (⟨"SinkingArchiveModel", "mostRoom", "()I"⟩, 40), (⟨"SinkingArchiveModel", "readRecord", "()Z"⟩, 40), (⟨"SinkingArchiveModel", "readFloor", "(III)I"⟩, 40), (⟨"SinkingArchiveModel", "hasAnyMore", "()Z"⟩, 40), (⟨"SinkingArchiveModel", "hasMore", "(I)Z"⟩, 40), (⟨"SinkingArchiveModel", "readCite", "()Z"⟩, 40), (⟨"SinkingArchiveModel", "there", "()I"⟩, 40), (⟨"SinkingArchiveModel", "keptNow", "()I"⟩, 40), (⟨"SinkingArchiveModel", "stepsNow", "()I"⟩, 40), (⟨"SinkingArchiveModel", "noFloor", "(I)Z"⟩, 40), (⟨"SinkingArchiveModel", "setOn", "(I)I"⟩, 40), (⟨"SinkingArchiveModel", "weightOf", "(I)I"⟩, 40)]
theorem lw_r3 : ∀ q ∈ lw_privs_3, lw_okq q := List.forall_mem_cons.mpr ⟨lw_p32, List.forall_mem_cons.mpr ⟨lw_p33, List.forall_mem_cons.mpr ⟨lw_p34, List.forall_mem_cons.mpr ⟨lw_p35, List.forall_mem_cons.mpr ⟨lw_p36, List.forall_mem_cons.mpr ⟨lw_p37, List.forall_mem_cons.mpr ⟨lw_p38, List.forall_mem_cons.mpr ⟨lw_p39, List.forall_mem_cons.mpr ⟨lw_p40, List.forall_mem_cons.mpr ⟨lw_p41, List.forall_mem_cons.mpr ⟨lw_p42, List.forall_mem_cons.mpr ⟨lw_p43, List.forall_mem_cons.mpr ⟨lw_p44, List.forall_mem_cons.mpr ⟨lw_p45, List.forall_mem_cons.mpr ⟨lw_p46, List.forall_mem_cons.mpr ⟨lw_p47, fun _ h => absurd h List.not_mem_nil⟩⟩⟩⟩⟩⟩⟩⟩⟩⟩⟩⟩⟩⟩⟩⟩
theorem lw_p48 : lw_okq (⟨"SinkingArchiveModel", "noRecord", "(I)Z"⟩, 40) := ⟨⟨by decide +kernel, by decide +kernel⟩, List.mem_of_getElem? (i := 749) (by decide +kernel), List.mem_of_getElem? (i := 975) (by decide +kernel), List.mem_of_getElem? (i := 976) (by decide +kernel)⟩
theorem lw_p49 : lw_okq (⟨"SinkingArchiveModel", "groupOf", "(I)I"⟩, 40) := ⟨⟨by decide +kernel, by decide +kernel⟩, List.mem_of_getElem? (i := 749) (by decide +kernel), List.mem_of_getElem? (i := 992) (by decide +kernel), List.mem_of_getElem? (i := 993) (by decide +kernel)⟩
theorem lw_p50 : lw_okq (⟨"SinkingArchiveModel", "layHeads", "()V"⟩, 40) := ⟨⟨by decide +kernel, by decide +kernel⟩, List.mem_of_getElem? (i := 749) (by decide +kernel), List.mem_of_getElem? (i := 996) (by decide +kernel), List.mem_of_getElem? (i := 997) (by decide +kernel)⟩
theorem lw_p51 : lw_okq (⟨"SinkingArchiveModel", "note", "()V"⟩, 40) := ⟨⟨by decide +kernel, by decide +kernel⟩, List.mem_of_getElem? (i := 749) (by decide +kernel), List.mem_of_getElem? (i := 1000) (by decide +kernel), List.mem_of_getElem? (i := 1001) (by decide +kernel)⟩
theorem lw_p52 : lw_okq (⟨"SinkingArchiveModel", "layPage", "([II)V"⟩, 40) := ⟨⟨by decide +kernel, by decide +kernel⟩, List.mem_of_getElem? (i := 749) (by decide +kernel), List.mem_of_getElem? (i := 1004) (by decide +kernel), List.mem_of_getElem? (i := 1005) (by decide +kernel)⟩
theorem lw_p53 : lw_okq (⟨"SinkingArchiveModel", "citing", "(I)I"⟩, 40) := ⟨⟨by decide +kernel, by decide +kernel⟩, List.mem_of_getElem? (i := 749) (by decide +kernel), List.mem_of_getElem? (i := 1020) (by decide +kernel), List.mem_of_getElem? (i := 1021) (by decide +kernel)⟩
theorem lw_p54 : lw_okq (⟨"SinkingArchiveModel", "takePage", "([II)V"⟩, 40) := ⟨⟨by decide +kernel, by decide +kernel⟩, List.mem_of_getElem? (i := 749) (by decide +kernel), List.mem_of_getElem? (i := 1028) (by decide +kernel), List.mem_of_getElem? (i := 1029) (by decide +kernel)⟩
theorem lw_p55 : lw_okq (⟨"SinkingArchiveModel", "noPlan", "(I)I"⟩, 40) := ⟨⟨by decide +kernel, by decide +kernel⟩, List.mem_of_getElem? (i := 749) (by decide +kernel), List.mem_of_getElem? (i := 1036) (by decide +kernel), List.mem_of_getElem? (i := 1037) (by decide +kernel)⟩
theorem lw_p56 : lw_okq (⟨"SinkingArchiveModel", "findPlan", "(I)V"⟩, 40) := ⟨⟨by decide +kernel, by decide +kernel⟩, List.mem_of_getElem? (i := 749) (by decide +kernel), List.mem_of_getElem? (i := 1041) (by decide +kernel), List.mem_of_getElem? (i := 1042) (by decide +kernel)⟩
theorem lw_p57 : lw_okq (⟨"SinkingArchiveModel", "beginStand", "(I)V"⟩, 40) := ⟨⟨by decide +kernel, by decide +kernel⟩, List.mem_of_getElem? (i := 749) (by decide +kernel), List.mem_of_getElem? (i := 1046) (by decide +kernel), List.mem_of_getElem? (i := 1047) (by decide +kernel)⟩
theorem lw_p58 : lw_okq (⟨"SinkingArchiveModel", "from", "(II)I"⟩, 40) := ⟨⟨by decide +kernel, by decide +kernel⟩, List.mem_of_getElem? (i := 749) (by decide +kernel), List.mem_of_getElem? (i := 1050) (by decide +kernel), List.mem_of_getElem? (i := 1051) (by decide +kernel)⟩
theorem lw_p59 : lw_okq (⟨"SinkingArchiveModel", "nextStand", "(I)Z"⟩, 40) := ⟨⟨by decide +kernel, by decide +kernel⟩, List.mem_of_getElem? (i := 749) (by decide +kernel), List.mem_of_getElem? (i := 1054) (by decide +kernel), List.mem_of_getElem? (i := 1055) (by decide +kernel)⟩
theorem lw_p60 : lw_okq (⟨"SinkingArchiveModel", "takes", "(III)I"⟩, 40) := ⟨⟨by decide +kernel, by decide +kernel⟩, List.mem_of_getElem? (i := 749) (by decide +kernel), List.mem_of_getElem? (i := 1058) (by decide +kernel), List.mem_of_getElem? (i := 1059) (by decide +kernel)⟩
theorem lw_p61 : lw_okq (⟨"SinkingArchiveModel", "goDecade", "(I)V"⟩, 40) := ⟨⟨by decide +kernel, by decide +kernel⟩, List.mem_of_getElem? (i := 749) (by decide +kernel), List.mem_of_getElem? (i := 1062) (by decide +kernel), List.mem_of_getElem? (i := 1063) (by decide +kernel)⟩
theorem lw_p62 : lw_okq (⟨"SinkingArchiveModel", "weigh", "(I)V"⟩, 40) := ⟨⟨by decide +kernel, by decide +kernel⟩, List.mem_of_getElem? (i := 749) (by decide +kernel), List.mem_of_getElem? (i := 1066) (by decide +kernel), List.mem_of_getElem? (i := 1067) (by decide +kernel)⟩
theorem lw_p63 : lw_okq (⟨"SinkingArchiveModel", "keptAt", "(I)I"⟩, 40) := ⟨⟨by decide +kernel, by decide +kernel⟩, List.mem_of_getElem? (i := 749) (by decide +kernel), List.mem_of_getElem? (i := 1070) (by decide +kernel), List.mem_of_getElem? (i := 1071) (by decide +kernel)⟩
def lw_privs_4 : List (MethodName × Nat) := [(⟨"SinkingArchiveModel", "noRecord", "(I)Z"⟩, 40), (⟨"SinkingArchiveModel", "groupOf", "(I)I"⟩, 40), (⟨"SinkingArchiveModel", "layHeads", "()V"⟩, 40), (⟨"SinkingArchiveModel", "note", "()V"⟩, 40), (⟨"SinkingArchiveModel", "layPage", "([II)V"⟩, 40), (⟨"SinkingArchiveModel", "citing", "(I)I"⟩, 40), (⟨"SinkingArchiveModel", "takePage", "([II)V"⟩, 40), (⟨"SinkingArchiveModel", "noPlan", "(I)I"⟩, 40), (⟨"SinkingArchiveModel", "findPlan", "(I)V"⟩, 40), (⟨"SinkingArchiveModel", "beginStand", "(I)V"⟩, 40), (⟨"SinkingArchiveModel", "from", "(II)I"⟩, 40), (⟨"SinkingArchiveModel", "nextStand", "(I)Z"⟩, 40), (⟨"SinkingArchiveModel", "takes", "(III)I"⟩, 40), (⟨"SinkingArchiveModel", "goDecade", "(I)V"⟩, 40), (⟨"SinkingArchiveModel", "weigh", "(I)V"⟩, 40), (⟨"SinkingArchiveModel", "keptAt", "(I)I"⟩, 40)]
theorem lw_r4 : ∀ q ∈ lw_privs_4, lw_okq q := List.forall_mem_cons.mpr ⟨lw_p48, List.forall_mem_cons.mpr ⟨lw_p49, List.forall_mem_cons.mpr ⟨lw_p50, List.forall_mem_cons.mpr ⟨lw_p51, List.forall_mem_cons.mpr ⟨lw_p52, List.forall_mem_cons.mpr ⟨lw_p53, List.forall_mem_cons.mpr ⟨lw_p54, List.forall_mem_cons.mpr ⟨lw_p55, List.forall_mem_cons.mpr ⟨lw_p56, List.forall_mem_cons.mpr ⟨lw_p57, List.forall_mem_cons.mpr ⟨lw_p58, List.forall_mem_cons.mpr ⟨lw_p59, List.forall_mem_cons.mpr ⟨lw_p60, List.forall_mem_cons.mpr ⟨lw_p61, List.forall_mem_cons.mpr ⟨lw_p62, List.forall_mem_cons.mpr ⟨lw_p63, fun _ h => absurd h List.not_mem_nil⟩⟩⟩⟩⟩⟩⟩⟩⟩⟩⟩⟩⟩⟩⟩⟩
theorem lw_p64 : lw_okq (⟨"SinkingArchiveModel", "nextHand", "()Z"⟩, 40) := ⟨⟨by decide +kernel, by decide +kernel⟩, List.mem_of_getElem? (i := 749) (by decide +kernel), List.mem_of_getElem? (i := 1086) (by decide +kernel), List.mem_of_getElem? (i := 1087) (by decide +kernel)⟩
theorem lw_p65 : lw_okq (⟨"SinkingArchiveModel", "wrongs", "()I"⟩, 40) := ⟨⟨by decide +kernel, by decide +kernel⟩, List.mem_of_getElem? (i := 749) (by decide +kernel), List.mem_of_getElem? (i := 1102) (by decide +kernel), List.mem_of_getElem? (i := 1103) (by decide +kernel)⟩
theorem lw_p66 : lw_okq (⟨"SinkingArchiveModel", "findDive", "(I)V"⟩, 40) := ⟨⟨by decide +kernel, by decide +kernel⟩, List.mem_of_getElem? (i := 749) (by decide +kernel), List.mem_of_getElem? (i := 1118) (by decide +kernel), List.mem_of_getElem? (i := 1119) (by decide +kernel)⟩
def lw_privs_5 : List (MethodName × Nat) := [(⟨"SinkingArchiveModel", "nextHand", "()Z"⟩, 40), (⟨"SinkingArchiveModel", "wrongs", "()I"⟩, 40), (⟨"SinkingArchiveModel", "findDive", "(I)V"⟩, 40)]
theorem lw_r5 : ∀ q ∈ lw_privs_5, lw_okq q := List.forall_mem_cons.mpr ⟨lw_p64, List.forall_mem_cons.mpr ⟨lw_p65, List.forall_mem_cons.mpr ⟨lw_p66, fun _ h => absurd h List.not_mem_nil⟩⟩⟩
def lw_privs : List (MethodName × Nat) := lw_privs_1 ++ (lw_privs_2 ++ (lw_privs_3 ++ (lw_privs_4 ++ (lw_privs_5))))
def lw_tbl : List Cond := k2_sels lw_privs ++ tables_1
theorem lw_privs_ok : ∀ q ∈ lw_privs, lw_okq q := by
  show ∀ q ∈ lw_privs_1 ++ (lw_privs_2 ++ (lw_privs_3 ++ (lw_privs_4 ++ (lw_privs_5)))), lw_okq q
  exact List.forall_mem_append.mpr ⟨lw_r1, List.forall_mem_append.mpr ⟨lw_r2, List.forall_mem_append.mpr ⟨lw_r3, List.forall_mem_append.mpr ⟨lw_r4, lw_r5⟩⟩⟩⟩
-- ===== end of PART A =====
/-! rows of the printed names that are used (begun from the claim's printed names) -/
theorem vr_outer (c : ClassId) (N h0 : Nat) : ∀ i : Nat, Jvm.Free.Multi.outerC c N h0 i = arrV c N (fun j => va_rf (if j < i then some (h0 + 1 + j) else none))
  | 0 => by
    show ({ cls := c, slots := Array.replicate N .null, vm := .none } : Cell) = _
    rw [arrV_new]
    refine congrArg (arrV c N) (funext fun j => ?_)
    simp [va_rf]
  | i + 1 => by
    show (Jvm.Free.Multi.outerC c N h0 i).setSlot i (.ref (h0 + 1 + i)) = _
    rw [vr_outer c N h0 i, arrV_store]
    refine congrArg (arrV c N) (funext fun j => ?_)
    by_cases e : j = i
    · subst e
      simp [updV, va_rf]
    · by_cases h : j < i
      · simp [updV, e, h, Nat.lt_succ_of_lt h]
      · simp [updV, e, h, show ¬ j < i + 1 by omega]
def RX0 : String := "SinkingArchive$Acts"
def TX0 : u_T := fun k => match k with
  | 0 => ("SinkingArchive$Acts", "row", "[LSinkingArchive$Standing;", true)
  | _ => ("SinkingArchive$Acts", "count", "I", false)
def tyX0 : Nat → FieldType := fun k => match k with
  | 0 => .array (.object "SinkingArchive$Standing")
  | _ => .int
abbrev wsX00 : List Cond := u_ws RX0 TX0 2
theorem nmX0 : ∀ a, a < 2 → ∀ b, b < 2 → a ≠ b → (TX0 a).2.1 ≠ (TX0 b).2.1 := by decide +kernel
theorem tyX0_ok : ∀ k, k < 2 → parseFieldDescriptor (TX0 k).2.2.1 = some (tyX0 k) := by decide +kernel
abbrev cX0_init : ByteArray := prog_2_method_1_code
def yX0_init : MethodName := ⟨RX0, "<init>", "()V"⟩
abbrev cX0_remember : ByteArray := prog_2_method_2_code
def yX0_remember : MethodName := ⟨RX0, "remember", "(LSinkingArchive$Standing;)V"⟩
abbrev cX0_forgetFirst : ByteArray := prog_2_method_3_code
def yX0_forgetFirst : MethodName := ⟨RX0, "forgetFirst", "()V"⟩
abbrev cX0_takeBack : ByteArray := prog_2_method_4_code
def yX0_takeBack : MethodName := ⟨RX0, "takeBack", "(LSinkingArchive$Standing;)V"⟩
def RX1 : String := "SinkingArchive$Arranger"
def TX1 : u_T := fun k => match k with
  | 0 => ("SinkingArchive$Arranger", "units", "LSinkingArchive$Units;", false)
  | 1 => ("SinkingArchive$Arranger", "tower", "LSinkingArchive$Tower;", false)
  | 2 => ("SinkingArchive$Arranger", "water", "I", false)
  | 3 => ("SinkingArchive$Arranger", "fewest", "I", false)
  | _ => ("SinkingArchive$Arranger", "load", "[I", true)
def tyX1 : Nat → FieldType := fun k => match k with
  | 0 => .object "SinkingArchive$Units"
  | 1 => .object "SinkingArchive$Tower"
  | 2 => .int
  | 3 => .int
  | _ => .array .int
abbrev wsX10 : List Cond := u_ws RX1 TX1 5
theorem nmX1 : ∀ a, a < 5 → ∀ b, b < 5 → a ≠ b → (TX1 a).2.1 ≠ (TX1 b).2.1 := by decide +kernel
theorem tyX1_ok : ∀ k, k < 5 → parseFieldDescriptor (TX1 k).2.2.1 = some (tyX1 k) := by decide +kernel
abbrev cX1_init : ByteArray := prog_3_method_1_code
def yX1_init : MethodName := ⟨RX1, "<init>", "()V"⟩
abbrev cX1_fewestSteps : ByteArray := prog_3_method_2_code
def yX1_fewestSteps : MethodName := ⟨RX1, "fewestSteps", "(LSinkingArchive$Tower;ILSinkingArchive$Units;)I"⟩
abbrev cX1_place : ByteArray := prog_3_method_3_code
def yX1_place : MethodName := ⟨RX1, "place", "(LSinkingArchive$Arranger;II)V"⟩
def RX2 : String := "SinkingArchive$Diver"
def TX2 : u_T := fun k => match k with
  | 0 => ("SinkingArchive$Diver", "worth", "I", false)
  | 1 => ("SinkingArchive$Diver", "minutes", "I", false)
  | _ => ("SinkingArchive$Diver", "set", "I", false)
def tyX2 : Nat → FieldType := fun k => match k with
  | 0 => .int
  | 1 => .int
  | _ => .int
abbrev wsX20 : List Cond := u_ws RX2 TX2 3
theorem nmX2 : ∀ a, a < 3 → ∀ b, b < 3 → a ≠ b → (TX2 a).2.1 ≠ (TX2 b).2.1 := by decide +kernel
theorem tyX2_ok : ∀ k, k < 3 → parseFieldDescriptor (TX2 k).2.2.1 = some (tyX2 k) := by decide +kernel
abbrev cX2_init : ByteArray := prog_4_method_1_code
def yX2_init : MethodName := ⟨RX2, "<init>", "()V"⟩
abbrev cX2_search : ByteArray := prog_4_method_2_code
def yX2_search : MethodName := ⟨RX2, "search", "(LSinkingArchive$Tower;LSinkingArchive$Standing;I)V"⟩
abbrev cX2_weigh : ByteArray := prog_4_method_3_code
def yX2_weigh : MethodName := ⟨RX2, "weigh", "(LSinkingArchive$Tower;LSinkingArchive$Standing;II)V"⟩
abbrev cX2_wholeTenths : ByteArray := prog_4_method_4_code
def yX2_wholeTenths : MethodName := ⟨RX2, "wholeTenths", "(II)I"⟩
def RX3 : String := "SinkingArchive$Planner"
def TX3 : u_T := fun k => match k with
  | 0 => ("SinkingArchive$Planner", "most", "I", false)
  | 1 => ("SinkingArchive$Planner", "least", "I", false)
  | 2 => ("SinkingArchive$Planner", "first", "[I", true)
  | 3 => ("SinkingArchive$Planner", "units", "LSinkingArchive$Units;", false)
  | 4 => ("SinkingArchive$Planner", "floors", "I", false)
  | 5 => ("SinkingArchive$Planner", "water", "I", false)
  | 6 => ("SinkingArchive$Planner", "turns", "I", false)
  | 7 => ("SinkingArchive$Planner", "bears", "[I", true)
  | 8 => ("SinkingArchive$Planner", "left", "[I", true)
  | 9 => ("SinkingArchive$Planner", "load", "[[I", true)
  | 10 => ("SinkingArchive$Planner", "worth", "[[I", true)
  | 11 => ("SinkingArchive$Planner", "stands", "[I", true)
  | _ => ("SinkingArchive$Planner", "damp", "[I", true)
def tyX3 : Nat → FieldType := fun k => match k with
  | 0 => .int
  | 1 => .int
  | 2 => .array .int
  | 3 => .object "SinkingArchive$Units"
  | 4 => .int
  | 5 => .int
  | 6 => .int
  | 7 => .array .int
  | 8 => .array .int
  | 9 => .array (.array .int)
  | 10 => .array (.array .int)
  | 11 => .array .int
  | _ => .array .int
abbrev wsX30 : List Cond := u_ws RX3 TX3 13
theorem nmX3 : ∀ a, a < 13 → ∀ b, b < 13 → a ≠ b → (TX3 a).2.1 ≠ (TX3 b).2.1 := by decide +kernel
theorem tyX3_ok : ∀ k, k < 13 → parseFieldDescriptor (TX3 k).2.2.1 = some (tyX3 k) := by decide +kernel
abbrev cX3_init : ByteArray := prog_5_method_1_code
def yX3_init : MethodName := ⟨RX3, "<init>", "()V"⟩
abbrev cX3_plan : ByteArray := prog_5_method_2_code
def yX3_plan : MethodName := ⟨RX3, "plan", "(LSinkingArchive$Tower;LSinkingArchive$Standing;LSinkingArchive$Units;I)V"⟩
abbrev cX3_worthWhenDamp : ByteArray := prog_5_method_3_code
def yX3_worthWhenDamp : MethodName := ⟨RX3, "worthWhenDamp", "(LSinkingArchive$Tower;LSinkingArchive$Standing;II)I"⟩
abbrev cX3_choose : ByteArray := prog_5_method_4_code
def yX3_choose : MethodName := ⟨RX3, "choose", "(LSinkingArchive$Planner;III)V"⟩
abbrev cX3_note : ByteArray := prog_5_method_5_code
def yX3_note : MethodName := ⟨RX3, "note", "(II)V"⟩
def RX4 : String := "SinkingArchive$Reader"
def TX4 : u_T := fun k => match k with
  | 0 => ("SinkingArchive$Reader", "told", "LSinkingArchive$Tower;", false)
  | 1 => ("SinkingArchive$Reader", "stage", "I", false)
  | 2 => ("SinkingArchive$Reader", "floor", "I", false)
  | 3 => ("SinkingArchive$Reader", "tens", "I", false)
  | 4 => ("SinkingArchive$Reader", "room", "[I", true)
  | 5 => ("SinkingArchive$Reader", "weight", "I", false)
  | 6 => ("SinkingArchive$Reader", "worth", "I", false)
  | 7 => ("SinkingArchive$Reader", "asked", "I", false)
  | 8 => ("SinkingArchive$Reader", "kind", "I", false)
  | _ => ("SinkingArchive$Reader", "citing", "I", false)
def tyX4 : Nat → FieldType := fun k => match k with
  | 0 => .object "SinkingArchive$Tower"
  | 1 => .int
  | 2 => .int
  | 3 => .int
  | 4 => .array .int
  | 5 => .int
  | 6 => .int
  | 7 => .int
  | 8 => .int
  | _ => .int
abbrev wsX40 : List Cond := u_ws RX4 TX4 10
theorem nmX4 : ∀ a, a < 10 → ∀ b, b < 10 → a ≠ b → (TX4 a).2.1 ≠ (TX4 b).2.1 := by decide +kernel
theorem tyX4_ok : ∀ k, k < 10 → parseFieldDescriptor (TX4 k).2.2.1 = some (tyX4 k) := by decide +kernel
abbrev cX4_init : ByteArray := prog_6_method_1_code
def yX4_init : MethodName := ⟨RX4, "<init>", "()V"⟩
abbrev cX4_firstFault : ByteArray := prog_6_method_2_code
def yX4_firstFault : MethodName := ⟨RX4, "firstFault", "([II)I"⟩
abbrev cX4_takes : ByteArray := prog_6_method_3_code
def yX4_takes : MethodName := ⟨RX4, "takes", "(I)Z"⟩
abbrev cX4_takesPart : ByteArray := prog_6_method_4_code
def yX4_takesPart : MethodName := ⟨RX4, "takesPart", "(I)Z"⟩
abbrev cX4_takesFigure : ByteArray := prog_6_method_5_code
def yX4_takesFigure : MethodName := ⟨RX4, "takesFigure", "(I)Z"⟩
abbrev cX4_takesFloors : ByteArray := prog_6_method_6_code
def yX4_takesFloors : MethodName := ⟨RX4, "takesFloors", "(I)Z"⟩
abbrev cX4_takesTens : ByteArray := prog_6_method_7_code
def yX4_takesTens : MethodName := ⟨RX4, "takesTens", "(I)Z"⟩
abbrev cX4_takesOnes : ByteArray := prog_6_method_8_code
def yX4_takesOnes : MethodName := ⟨RX4, "takesOnes", "(I)Z"⟩
abbrev cX4_takesWeight : ByteArray := prog_6_method_9_code
def yX4_takesWeight : MethodName := ⟨RX4, "takesWeight", "(I)Z"⟩
abbrev cX4_takesWorth : ByteArray := prog_6_method_10_code
def yX4_takesWorth : MethodName := ⟨RX4, "takesWorth", "(I)Z"⟩
abbrev cX4_takesAsked : ByteArray := prog_6_method_11_code
def yX4_takesAsked : MethodName := ⟨RX4, "takesAsked", "(I)Z"⟩
abbrev cX4_takesKind : ByteArray := prog_6_method_12_code
def yX4_takesKind : MethodName := ⟨RX4, "takesKind", "(I)Z"⟩
abbrev cX4_takesPlace : ByteArray := prog_6_method_13_code
def yX4_takesPlace : MethodName := ⟨RX4, "takesPlace", "(I)Z"⟩
abbrev cX4_takesCiting : ByteArray := prog_6_method_14_code
def yX4_takesCiting : MethodName := ⟨RX4, "takesCiting", "(I)Z"⟩
abbrev cX4_takesCited : ByteArray := prog_6_method_15_code
def yX4_takesCited : MethodName := ⟨RX4, "takesCited", "(I)Z"⟩
abbrev cX4_hasRoom : ByteArray := prog_6_method_16_code
def yX4_hasRoom : MethodName := ⟨RX4, "hasRoom", "(I)Z"⟩
abbrev cX4_placeAhead : ByteArray := prog_6_method_17_code
def yX4_placeAhead : MethodName := ⟨RX4, "placeAhead", "()I"⟩
abbrev cX4_bearsIt : ByteArray := prog_6_method_18_code
def yX4_bearsIt : MethodName := ⟨RX4, "bearsIt", "(I)Z"⟩
abbrev cX4_someoneCanCite : ByteArray := prog_6_method_19_code
def yX4_someoneCanCite : MethodName := ⟨RX4, "someoneCanCite", "()Z"⟩
abbrev cX4_canCite : ByteArray := prog_6_method_20_code
def yX4_canCite : MethodName := ⟨RX4, "canCite", "(I)Z"⟩
abbrev cX4_citableBy : ByteArray := prog_6_method_21_code
def yX4_citableBy : MethodName := ⟨RX4, "citableBy", "(I)I"⟩
def RX5 : String := "SinkingArchive$Slot"
def TX5 : u_T := fun k => match k with
  | 0 => ("SinkingArchive$Slot", "used", "Z", false)
  | 1 => ("SinkingArchive$Slot", "standing", "LSinkingArchive$Standing;", true)
  | _ => ("SinkingArchive$Slot", "says", "[I", true)
def tyX5 : Nat → FieldType := fun k => match k with
  | 0 => .boolean
  | 1 => .object "SinkingArchive$Standing"
  | _ => .array .int
abbrev wsX50 : List Cond := u_ws RX5 TX5 3
theorem nmX5 : ∀ a, a < 3 → ∀ b, b < 3 → a ≠ b → (TX5 a).2.1 ≠ (TX5 b).2.1 := by decide +kernel
theorem tyX5_ok : ∀ k, k < 3 → parseFieldDescriptor (TX5 k).2.2.1 = some (tyX5 k) := by decide +kernel
abbrev cX5_init : ByteArray := prog_7_method_1_code
def yX5_init : MethodName := ⟨RX5, "<init>", "()V"⟩
def RX6 : String := "SinkingArchive$Standing"
def TX6 : u_T := fun k => match k with
  | 0 => ("SinkingArchive$Standing", "place", "[I", true)
  | 1 => ("SinkingArchive$Standing", "worth", "[I", true)
  | 2 => ("SinkingArchive$Standing", "kind", "[I", true)
  | 3 => ("SinkingArchive$Standing", "drowned", "I", false)
  | 4 => ("SinkingArchive$Standing", "water", "I", false)
  | 5 => ("SinkingArchive$Standing", "effort", "I", false)
  | _ => ("SinkingArchive$Standing", "left", "I", false)
def tyX6 : Nat → FieldType := fun k => match k with
  | 0 => .array .int
  | 1 => .array .int
  | 2 => .array .int
  | 3 => .int
  | 4 => .int
  | 5 => .int
  | _ => .int
abbrev wsX60 : List Cond := u_ws RX6 TX6 7
theorem nmX6 : ∀ a, a < 7 → ∀ b, b < 7 → a ≠ b → (TX6 a).2.1 ≠ (TX6 b).2.1 := by decide +kernel
theorem tyX6_ok : ∀ k, k < 7 → parseFieldDescriptor (TX6 k).2.2.1 = some (tyX6 k) := by decide +kernel
abbrev cX6_init : ByteArray := prog_8_method_1_code
def yX6_init : MethodName := ⟨RX6, "<init>", "()V"⟩
abbrev cX6_begin : ByteArray := prog_8_method_2_code
def yX6_begin : MethodName := ⟨RX6, "begin", "(LSinkingArchive$Tower;)V"⟩
abbrev cX6_copy : ByteArray := prog_8_method_3_code
def yX6_copy : MethodName := ⟨RX6, "copy", "(LSinkingArchive$Standing;)V"⟩
abbrev cX6_copyRecords : ByteArray := prog_8_method_4_code
def yX6_copyRecords : MethodName := ⟨RX6, "copyRecords", "([I[I[I)V"⟩
abbrev cX6_isThere : ByteArray := prog_8_method_5_code
def yX6_isThere : MethodName := ⟨RX6, "isThere", "(I)Z"⟩
abbrev cX6_standingOn : ByteArray := prog_8_method_6_code
def yX6_standingOn : MethodName := ⟨RX6, "standingOn", "(II)I"⟩
abbrev cX6_keptWorth : ByteArray := prog_8_method_7_code
def yX6_keptWorth : MethodName := ⟨RX6, "keptWorth", "(I)I"⟩
abbrev cX6_stepsAsked : ByteArray := prog_8_method_8_code
def yX6_stepsAsked : MethodName := ⟨RX6, "stepsAsked", "(LSinkingArchive$Tower;)I"⟩
abbrev cX6_hangingTogether : ByteArray := prog_8_method_9_code
def yX6_hangingTogether : MethodName := ⟨RX6, "hangingTogether", "(II)I"⟩
abbrev cX6_isJoined : ByteArray := prog_8_method_10_code
def yX6_isJoined : MethodName := ⟨RX6, "isJoined", "(I)Z"⟩
abbrev cX6_raise : ByteArray := prog_8_method_11_code
def yX6_raise : MethodName := ⟨RX6, "raise", "(II)V"⟩
abbrev cX6_sink : ByteArray := prog_8_method_12_code
def yX6_sink : MethodName := ⟨RX6, "sink", "(I)I"⟩
abbrev cX6_writeAgain : ByteArray := prog_8_method_13_code
def yX6_writeAgain : MethodName := ⟨RX6, "writeAgain", "(III)V"⟩
def RX7 : String := "SinkingArchive$Tower"
def TX7 : u_T := fun k => match k with
  | 0 => ("SinkingArchive$Tower", "floors", "I", false)
  | 1 => ("SinkingArchive$Tower", "bears", "[I", true)
  | 2 => ("SinkingArchive$Tower", "records", "I", false)
  | 3 => ("SinkingArchive$Tower", "weight", "[I", true)
  | 4 => ("SinkingArchive$Tower", "worth", "[I", true)
  | 5 => ("SinkingArchive$Tower", "asked", "[I", true)
  | 6 => ("SinkingArchive$Tower", "kind", "[I", true)
  | 7 => ("SinkingArchive$Tower", "place", "[I", true)
  | _ => ("SinkingArchive$Tower", "cited", "[I", true)
def tyX7 : Nat → FieldType := fun k => match k with
  | 0 => .int
  | 1 => .array .int
  | 2 => .int
  | 3 => .array .int
  | 4 => .array .int
  | 5 => .array .int
  | 6 => .array .int
  | 7 => .array .int
  | _ => .array .int
abbrev wsX70 : List Cond := u_ws RX7 TX7 9
theorem nmX7 : ∀ a, a < 9 → ∀ b, b < 9 → a ≠ b → (TX7 a).2.1 ≠ (TX7 b).2.1 := by decide +kernel
theorem tyX7_ok : ∀ k, k < 9 → parseFieldDescriptor (TX7 k).2.2.1 = some (tyX7 k) := by decide +kernel
abbrev cX7_init : ByteArray := prog_9_method_1_code
def yX7_init : MethodName := ⟨RX7, "<init>", "()V"⟩
abbrev cX7_citing : ByteArray := prog_9_method_2_code
def yX7_citing : MethodName := ⟨RX7, "citing", "(II)Z"⟩
abbrev cX7_weightOf : ByteArray := prog_9_method_3_code
def yX7_weightOf : MethodName := ⟨RX7, "weightOf", "(I)I"⟩
def RX8 : String := "SinkingArchive$Units"
def TX8 : u_T := fun k => match k with
  | 0 => ("SinkingArchive$Units", "count", "I", false)
  | 1 => ("SinkingArchive$Units", "set", "[I", true)
  | 2 => ("SinkingArchive$Units", "weight", "[I", true)
  | 3 => ("SinkingArchive$Units", "asked", "[I", true)
  | _ => ("SinkingArchive$Units", "place", "[I", true)
def tyX8 : Nat → FieldType := fun k => match k with
  | 0 => .int
  | 1 => .array .int
  | 2 => .array .int
  | 3 => .array .int
  | _ => .array .int
abbrev wsX80 : List Cond := u_ws RX8 TX8 5
theorem nmX8 : ∀ a, a < 5 → ∀ b, b < 5 → a ≠ b → (TX8 a).2.1 ≠ (TX8 b).2.1 := by decide +kernel
theorem tyX8_ok : ∀ k, k < 5 → parseFieldDescriptor (TX8 k).2.2.1 = some (tyX8 k) := by decide +kernel
abbrev cX8_init : ByteArray := prog_10_method_1_code
def yX8_init : MethodName := ⟨RX8, "<init>", "()V"⟩
abbrev cX8_gather : ByteArray := prog_10_method_2_code
def yX8_gather : MethodName := ⟨RX8, "gather", "(LSinkingArchive$Tower;LSinkingArchive$Standing;)V"⟩
abbrev cX8_askedFor : ByteArray := prog_10_method_3_code
def yX8_askedFor : MethodName := ⟨RX8, "askedFor", "(LSinkingArchive$Tower;I)I"⟩
abbrev cX8_holding : ByteArray := prog_10_method_4_code
def yX8_holding : MethodName := ⟨RX8, "holding", "(I)I"⟩
def RX9 : String := "SinkingArchive"
def TX9 : u_T := fun k => match k with
  | 0 => ("SinkingArchive", "text", "[I", true)
  | 1 => ("SinkingArchive", "length", "I", false)
  | 2 => ("SinkingArchive", "reader", "LSinkingArchive$Reader;", true)
  | 3 => ("SinkingArchive", "raised", "LSinkingArchive$Tower;", false)
  | 4 => ("SinkingArchive", "now", "LSinkingArchive$Standing;", true)
  | 5 => ("SinkingArchive", "says", "[I", true)
  | 6 => ("SinkingArchive", "acts", "LSinkingArchive$Acts;", true)
  | 7 => ("SinkingArchive", "lowSlot", "LSinkingArchive$Slot;", true)
  | 8 => ("SinkingArchive", "highSlot", "LSinkingArchive$Slot;", true)
  | 9 => ("SinkingArchive", "units", "LSinkingArchive$Units;", true)
  | 10 => ("SinkingArchive", "planner", "LSinkingArchive$Planner;", true)
  | 11 => ("SinkingArchive", "arranger", "LSinkingArchive$Arranger;", true)
  | _ => ("SinkingArchive", "diver", "LSinkingArchive$Diver;", true)
def tyX9 : Nat → FieldType := fun k => match k with
  | 0 => .array .int
  | 1 => .int
  | 2 => .object "SinkingArchive$Reader"
  | 3 => .object "SinkingArchive$Tower"
  | 4 => .object "SinkingArchive$Standing"
  | 5 => .array .int
  | 6 => .object "SinkingArchive$Acts"
  | 7 => .object "SinkingArchive$Slot"
  | 8 => .object "SinkingArchive$Slot"
  | 9 => .object "SinkingArchive$Units"
  | 10 => .object "SinkingArchive$Planner"
  | 11 => .object "SinkingArchive$Arranger"
  | _ => .object "SinkingArchive$Diver"
abbrev wsX90 : List Cond := u_ws RX9 TX9 13
theorem nmX9 : ∀ a, a < 13 → ∀ b, b < 13 → a ≠ b → (TX9 a).2.1 ≠ (TX9 b).2.1 := by decide +kernel
theorem tyX9_ok : ∀ k, k < 13 → parseFieldDescriptor (TX9 k).2.2.1 = some (tyX9 k) := by decide +kernel
abbrev cX9_init : ByteArray := prog_1_method_1_code
def yX9_init : MethodName := ⟨RX9, "<init>", "()V"⟩
abbrev cX9_write : ByteArray := prog_1_method_2_code
def yX9_write : MethodName := ⟨RX9, "write", "(IJ)I"⟩
abbrev cX9_wipe : ByteArray := prog_1_method_3_code
def yX9_wipe : MethodName := ⟨RX9, "wipe", "()I"⟩
abbrev cX9_fault : ByteArray := prog_1_method_4_code
def yX9_fault : MethodName := ⟨RX9, "fault", "()I"⟩
abbrev cX9_tower : ByteArray := prog_1_method_5_code
def yX9_tower : MethodName := ⟨RX9, "tower", "()I"⟩
abbrev cX9_about : ByteArray := prog_1_method_6_code
def yX9_about : MethodName := ⟨RX9, "about", "(I)I"⟩
abbrev cX9_floor : ByteArray := prog_1_method_7_code
def yX9_floor : MethodName := ⟨RX9, "floor", "(II)I"⟩
abbrev cX9_record : ByteArray := prog_1_method_8_code
def yX9_record : MethodName := ⟨RX9, "record", "(II)I"⟩
abbrev cX9_cites : ByteArray := prog_1_method_9_code
def yX9_cites : MethodName := ⟨RX9, "cites", "(II)I"⟩
abbrev cX9_effort : ByteArray := prog_1_method_10_code
def yX9_effort : MethodName := ⟨RX9, "effort", "(I)I"⟩
abbrev cX9_carry : ByteArray := prog_1_method_11_code
def yX9_carry : MethodName := ⟨RX9, "carry", "(II)I"⟩
abbrev cX9_together : ByteArray := prog_1_method_12_code
def yX9_together : MethodName := ⟨RX9, "together", "(I)I"⟩
abbrev cX9_decade : ByteArray := prog_1_method_13_code
def yX9_decade : MethodName := ⟨RX9, "decade", "()I"⟩
abbrev cX9_anew : ByteArray := prog_1_method_14_code
def yX9_anew : MethodName := ⟨RX9, "anew", "(II)I"⟩
abbrev cX9_undo : ByteArray := prog_1_method_15_code
def yX9_undo : MethodName := ⟨RX9, "undo", "()I"⟩
abbrev cX9_most : ByteArray := prog_1_method_16_code
def yX9_most : MethodName := ⟨RX9, "most", "(I)I"⟩
abbrev cX9_least : ByteArray := prog_1_method_17_code
def yX9_least : MethodName := ⟨RX9, "least", "(I)I"⟩
abbrev cX9_planAt : ByteArray := prog_1_method_18_code
def yX9_planAt : MethodName := ⟨RX9, "planAt", "(II)I"⟩
abbrev cX9_atHand : ByteArray := prog_1_method_19_code
def yX9_atHand : MethodName := ⟨RX9, "atHand", "()I"⟩
abbrev cX9_index : ByteArray := prog_1_method_20_code
def yX9_index : MethodName := ⟨RX9, "index", "(II)I"⟩
abbrev cX9_lookUp : ByteArray := prog_1_method_21_code
def yX9_lookUp : MethodName := ⟨RX9, "lookUp", "(I)I"⟩
abbrev cX9_lies : ByteArray := prog_1_method_22_code
def yX9_lies : MethodName := ⟨RX9, "lies", "(Z)I"⟩
abbrev cX9_mend : ByteArray := prog_1_method_23_code
def yX9_mend : MethodName := ⟨RX9, "mend", "()I"⟩
abbrev cX9_dive : ByteArray := prog_1_method_24_code
def yX9_dive : MethodName := ⟨RX9, "dive", "(II)I"⟩
abbrev cX9_dry : ByteArray := prog_1_method_25_code
def yX9_dry : MethodName := ⟨RX9, "dry", "(IIIZ)J"⟩
abbrev cX9_keep : ByteArray := prog_1_method_26_code
def yX9_keep : MethodName := ⟨RX9, "keep", "(I)I"⟩
abbrev cX9_again : ByteArray := prog_1_method_27_code
def yX9_again : MethodName := ⟨RX9, "again", "(I)I"⟩
abbrev cX9_isFloor : ByteArray := prog_1_method_28_code
def yX9_isFloor : MethodName := ⟨RX9, "isFloor", "(I)Z"⟩
abbrev cX9_isRecord : ByteArray := prog_1_method_29_code
def yX9_isRecord : MethodName := ⟨RX9, "isRecord", "(I)Z"⟩
abbrev cX9_thereCount : ByteArray := prog_1_method_30_code
def yX9_thereCount : MethodName := ⟨RX9, "thereCount", "()I"⟩
abbrev cX9_bearsMore : ByteArray := prog_1_method_31_code
def yX9_bearsMore : MethodName := ⟨RX9, "bearsMore", "(II)Z"⟩
abbrev cX9_citingThere : ByteArray := prog_1_method_32_code
def yX9_citingThere : MethodName := ⟨RX9, "citingThere", "(I)I"⟩
abbrev cX9_liesAbout : ByteArray := prog_1_method_33_code
def yX9_liesAbout : MethodName := ⟨RX9, "liesAbout", "(I)Z"⟩
abbrev cX9_planRefusal : ByteArray := prog_1_method_34_code
def yX9_planRefusal : MethodName := ⟨RX9, "planRefusal", "(I)I"⟩
abbrev cX9_makePlan : ByteArray := prog_1_method_35_code
def yX9_makePlan : MethodName := ⟨RX9, "makePlan", "(I)V"⟩
abbrev cX9_floorsSearched : ByteArray := prog_1_method_36_code
def yX9_floorsSearched : MethodName := ⟨RX9, "floorsSearched", "(II)I"⟩
abbrev cX9_waysOfFewFloods : ByteArray := prog_1_method_37_code
def yX9_waysOfFewFloods : MethodName := ⟨RX9, "waysOfFewFloods", "(III)J"⟩
abbrev cX9_power : ByteArray := prog_1_method_38_code
def yX9_power : MethodName := ⟨RX9, "power", "(II)J"⟩
abbrev cX9_leastTerms : ByteArray := prog_1_method_39_code
def yX9_leastTerms : MethodName := ⟨RX9, "leastTerms", "(JJZ)J"⟩
abbrev cX9_commonDivisor : ByteArray := prog_1_method_40_code
def yX9_commonDivisor : MethodName := ⟨RX9, "commonDivisor", "(JJ)J"⟩
abbrev cX9_holds : ByteArray := prog_1_method_41_code
def yX9_holds : MethodName := ⟨RX9, "holds", "(II)Z"⟩
def RX10 : String := "SinkingArchiveModel"
def TX10 : u_T := fun k => match k with
  | 0 => ("SinkingArchiveModel", "thrown", "I", false)
  | 1 => ("SinkingArchiveModel", "text", "[I", true)
  | 2 => ("SinkingArchiveModel", "textSize", "I", false)
  | 3 => ("SinkingArchiveModel", "place", "I", false)
  | 4 => ("SinkingArchiveModel", "floors", "I", false)
  | 5 => ("SinkingArchiveModel", "bears", "[I", true)
  | 6 => ("SinkingArchiveModel", "records", "I", false)
  | 7 => ("SinkingArchiveModel", "weight", "[I", true)
  | 8 => ("SinkingArchiveModel", "worth", "[I", true)
  | 9 => ("SinkingArchiveModel", "asked", "[I", true)
  | 10 => ("SinkingArchiveModel", "kind", "[I", true)
  | 11 => ("SinkingArchiveModel", "floor", "[I", true)
  | 12 => ("SinkingArchiveModel", "drowned", "[Z", true)
  | 13 => ("SinkingArchiveModel", "index", "[I", true)
  | 14 => ("SinkingArchiveModel", "cites", "[Z", true)
  | 15 => ("SinkingArchiveModel", "water", "I", false)
  | 16 => ("SinkingArchiveModel", "effort", "I", false)
  | 17 => ("SinkingArchiveModel", "left", "I", false)
  | 18 => ("SinkingArchiveModel", "readFloors", "I", false)
  | 19 => ("SinkingArchiveModel", "readBears", "[I", true)
  | 20 => ("SinkingArchiveModel", "room", "[I", true)
  | 21 => ("SinkingArchiveModel", "readRecords", "I", false)
  | 22 => ("SinkingArchiveModel", "readRecord", "[I", true)
  | 23 => ("SinkingArchiveModel", "readCites", "[Z", true)
  | 24 => ("SinkingArchiveModel", "rows", "[I", true)
  | 25 => ("SinkingArchiveModel", "acts", "I", false)
  | 26 => ("SinkingArchiveModel", "kept", "[I", true)
  | 27 => ("SinkingArchiveModel", "isKept", "[Z", true)
  | 28 => ("SinkingArchiveModel", "stand", "[I", true)
  | 29 => ("SinkingArchiveModel", "value", "[I", true)
  | 30 => ("SinkingArchiveModel", "gone", "[Z", true)
  | 31 => ("SinkingArchiveModel", "spent", "[I", true)
  | 32 => ("SinkingArchiveModel", "planMost", "I", false)
  | 33 => ("SinkingArchiveModel", "planLeast", "I", false)
  | 34 => ("SinkingArchiveModel", "planned", "[I", true)
  | 35 => ("SinkingArchiveModel", "head", "[I", true)
  | 36 => ("SinkingArchiveModel", "load", "[I", true)
  | 37 => ("SinkingArchiveModel", "diveBest", "I", false)
  | 38 => ("SinkingArchiveModel", "diveMinutes", "I", false)
  | _ => ("SinkingArchiveModel", "diveSet", "I", false)
def tyX10 : Nat → FieldType := fun k => match k with
  | 0 => .int
  | 1 => .array .int
  | 2 => .int
  | 3 => .int
  | 4 => .int
  | 5 => .array .int
  | 6 => .int
  | 7 => .array .int
  | 8 => .array .int
  | 9 => .array .int
  | 10 => .array .int
  | 11 => .array .int
  | 12 => .array .boolean
  | 13 => .array .int
  | 14 => .array .boolean
  | 15 => .int
  | 16 => .int
  | 17 => .int
  | 18 => .int
  | 19 => .array .int
  | 20 => .array .int
  | 21 => .int
  | 22 => .array .int
  | 23 => .array .boolean
  | 24 => .array .int
  | 25 => .int
  | 26 => .array .int
  | 27 => .array .boolean
  | 28 => .array .int
  | 29 => .array .int
  | 30 => .array .boolean
  | 31 => .array .int
  | 32 => .int
  | 33 => .int
  | 34 => .array .int
  | 35 => .array .int
  | 36 => .array .int
  | 37 => .int
  | 38 => .int
  | _ => .int
abbrev wsX100 : List Cond := u_ws RX10 TX10 40
theorem nmX10 : ∀ a, a < 40 → ∀ b, b < 40 → a ≠ b → (TX10 a).2.1 ≠ (TX10 b).2.1 := by decide +kernel
theorem tyX10_ok : ∀ k, k < 40 → parseFieldDescriptor (TX10 k).2.2.1 = some (tyX10 k) := by decide +kernel
abbrev cX10_init : ByteArray := prog_12_method_1_code
def yX10_init : MethodName := ⟨RX10, "<init>", "()V"⟩
abbrev cX10_in : ByteArray := prog_12_method_3_code
def yX10_in : MethodName := ⟨RX10, "in", "(JJJ)Z"⟩
abbrev cX10_has : ByteArray := prog_12_method_4_code
def yX10_has : MethodName := ⟨RX10, "has", "(II)Z"⟩
abbrev cX10_noRecord : ByteArray := prog_12_method_5_code
def yX10_noRecord : MethodName := ⟨RX10, "noRecord", "(I)Z"⟩
abbrev cX10_noFloor : ByteArray := prog_12_method_6_code
def yX10_noFloor : MethodName := ⟨RX10, "noFloor", "(I)Z"⟩
abbrev cX10_write : ByteArray := prog_12_method_7_code
def yX10_write : MethodName := ⟨RX10, "write", "(IJ)I"⟩
abbrev cX10_wipe : ByteArray := prog_12_method_8_code
def yX10_wipe : MethodName := ⟨RX10, "wipe", "()I"⟩
abbrev cX10_figure : ByteArray := prog_12_method_9_code
def yX10_figure : MethodName := ⟨RX10, "figure", "(II)I"⟩
abbrev cX10_mostRoom : ByteArray := prog_12_method_10_code
def yX10_mostRoom : MethodName := ⟨RX10, "mostRoom", "()I"⟩
abbrev cX10_readFloor : ByteArray := prog_12_method_11_code
def yX10_readFloor : MethodName := ⟨RX10, "readFloor", "(III)I"⟩
abbrev cX10_readRecord : ByteArray := prog_12_method_12_code
def yX10_readRecord : MethodName := ⟨RX10, "readRecord", "()Z"⟩
abbrev cX10_hasMore : ByteArray := prog_12_method_13_code
def yX10_hasMore : MethodName := ⟨RX10, "hasMore", "(I)Z"⟩
abbrev cX10_hasAnyMore : ByteArray := prog_12_method_14_code
def yX10_hasAnyMore : MethodName := ⟨RX10, "hasAnyMore", "()Z"⟩
abbrev cX10_readCite : ByteArray := prog_12_method_15_code
def yX10_readCite : MethodName := ⟨RX10, "readCite", "()Z"⟩
abbrev cX10_readPart : ByteArray := prog_12_method_16_code
def yX10_readPart : MethodName := ⟨RX10, "readPart", "()Z"⟩
abbrev cX10_readTower : ByteArray := prog_12_method_17_code
def yX10_readTower : MethodName := ⟨RX10, "readTower", "()I"⟩
abbrev cX10_fault : ByteArray := prog_12_method_18_code
def yX10_fault : MethodName := ⟨RX10, "fault", "()I"⟩
abbrev cX10_tower : ByteArray := prog_12_method_19_code
def yX10_tower : MethodName := ⟨RX10, "tower", "()I"⟩
abbrev cX10_there : ByteArray := prog_12_method_20_code
def yX10_there : MethodName := ⟨RX10, "there", "()I"⟩
abbrev cX10_many : ByteArray := prog_12_method_21_code
def yX10_many : MethodName := ⟨RX10, "many", "(I)I"⟩
abbrev cX10_keptNow : ByteArray := prog_12_method_22_code
def yX10_keptNow : MethodName := ⟨RX10, "keptNow", "()I"⟩
abbrev cX10_stepsNow : ByteArray := prog_12_method_23_code
def yX10_stepsNow : MethodName := ⟨RX10, "stepsNow", "()I"⟩
abbrev cX10_about : ByteArray := prog_12_method_24_code
def yX10_about : MethodName := ⟨RX10, "about", "(I)I"⟩
abbrev cX10_setOn : ByteArray := prog_12_method_25_code
def yX10_setOn : MethodName := ⟨RX10, "setOn", "(I)I"⟩
abbrev cX10_weightOf : ByteArray := prog_12_method_26_code
def yX10_weightOf : MethodName := ⟨RX10, "weightOf", "(I)I"⟩
abbrev cX10_floor : ByteArray := prog_12_method_27_code
def yX10_floor : MethodName := ⟨RX10, "floor", "(II)I"⟩
abbrev cX10_record : ByteArray := prog_12_method_28_code
def yX10_record : MethodName := ⟨RX10, "record", "(II)I"⟩
abbrev cX10_cites : ByteArray := prog_12_method_29_code
def yX10_cites : MethodName := ⟨RX10, "cites", "(II)I"⟩
abbrev cX10_effort : ByteArray := prog_12_method_30_code
def yX10_effort : MethodName := ⟨RX10, "effort", "(I)I"⟩
abbrev cX10_layPage : ByteArray := prog_12_method_31_code
def yX10_layPage : MethodName := ⟨RX10, "layPage", "([II)V"⟩
abbrev cX10_takePage : ByteArray := prog_12_method_32_code
def yX10_takePage : MethodName := ⟨RX10, "takePage", "([II)V"⟩
abbrev cX10_note : ByteArray := prog_12_method_33_code
def yX10_note : MethodName := ⟨RX10, "note", "()V"⟩
abbrev cX10_layHeads : ByteArray := prog_12_method_34_code
def yX10_layHeads : MethodName := ⟨RX10, "layHeads", "()V"⟩
abbrev cX10_groupOf : ByteArray := prog_12_method_35_code
def yX10_groupOf : MethodName := ⟨RX10, "groupOf", "(I)I"⟩
abbrev cX10_carry : ByteArray := prog_12_method_36_code
def yX10_carry : MethodName := ⟨RX10, "carry", "(II)I"⟩
abbrev cX10_together : ByteArray := prog_12_method_37_code
def yX10_together : MethodName := ⟨RX10, "together", "(I)I"⟩
abbrev cX10_decade : ByteArray := prog_12_method_38_code
def yX10_decade : MethodName := ⟨RX10, "decade", "()I"⟩
abbrev cX10_citing : ByteArray := prog_12_method_39_code
def yX10_citing : MethodName := ⟨RX10, "citing", "(I)I"⟩
abbrev cX10_anew : ByteArray := prog_12_method_40_code
def yX10_anew : MethodName := ⟨RX10, "anew", "(II)I"⟩
abbrev cX10_undo : ByteArray := prog_12_method_41_code
def yX10_undo : MethodName := ⟨RX10, "undo", "()I"⟩
abbrev cX10_takes : ByteArray := prog_12_method_42_code
def yX10_takes : MethodName := ⟨RX10, "takes", "(III)I"⟩
abbrev cX10_from : ByteArray := prog_12_method_43_code
def yX10_from : MethodName := ⟨RX10, "from", "(II)I"⟩
abbrev cX10_nextStand : ByteArray := prog_12_method_44_code
def yX10_nextStand : MethodName := ⟨RX10, "nextStand", "(I)Z"⟩
abbrev cX10_beginStand : ByteArray := prog_12_method_45_code
def yX10_beginStand : MethodName := ⟨RX10, "beginStand", "(I)V"⟩
abbrev cX10_goDecade : ByteArray := prog_12_method_46_code
def yX10_goDecade : MethodName := ⟨RX10, "goDecade", "(I)V"⟩
abbrev cX10_keptAt : ByteArray := prog_12_method_47_code
def yX10_keptAt : MethodName := ⟨RX10, "keptAt", "(I)I"⟩
abbrev cX10_findPlan : ByteArray := prog_12_method_48_code
def yX10_findPlan : MethodName := ⟨RX10, "findPlan", "(I)V"⟩
abbrev cX10_weigh : ByteArray := prog_12_method_49_code
def yX10_weigh : MethodName := ⟨RX10, "weigh", "(I)V"⟩
abbrev cX10_noPlan : ByteArray := prog_12_method_50_code
def yX10_noPlan : MethodName := ⟨RX10, "noPlan", "(I)I"⟩
abbrev cX10_most : ByteArray := prog_12_method_51_code
def yX10_most : MethodName := ⟨RX10, "most", "(I)I"⟩
abbrev cX10_least : ByteArray := prog_12_method_52_code
def yX10_least : MethodName := ⟨RX10, "least", "(I)I"⟩
abbrev cX10_planAt : ByteArray := prog_12_method_53_code
def yX10_planAt : MethodName := ⟨RX10, "planAt", "(II)I"⟩
abbrev cX10_nextHand : ByteArray := prog_12_method_54_code
def yX10_nextHand : MethodName := ⟨RX10, "nextHand", "()Z"⟩
abbrev cX10_atHand : ByteArray := prog_12_method_55_code
def yX10_atHand : MethodName := ⟨RX10, "atHand", "()I"⟩
abbrev cX10_index : ByteArray := prog_12_method_56_code
def yX10_index : MethodName := ⟨RX10, "index", "(II)I"⟩
abbrev cX10_lookUp : ByteArray := prog_12_method_57_code
def yX10_lookUp : MethodName := ⟨RX10, "lookUp", "(I)I"⟩
abbrev cX10_wrongs : ByteArray := prog_12_method_58_code
def yX10_wrongs : MethodName := ⟨RX10, "wrongs", "()I"⟩
abbrev cX10_divisor : ByteArray := prog_12_method_59_code
def yX10_divisor : MethodName := ⟨RX10, "divisor", "(JJ)J"⟩
abbrev cX10_lies : ByteArray := prog_12_method_60_code
def yX10_lies : MethodName := ⟨RX10, "lies", "(Z)I"⟩
abbrev cX10_mend : ByteArray := prog_12_method_61_code
def yX10_mend : MethodName := ⟨RX10, "mend", "()I"⟩
abbrev cX10_findDive : ByteArray := prog_12_method_62_code
def yX10_findDive : MethodName := ⟨RX10, "findDive", "(I)V"⟩
abbrev cX10_dive : ByteArray := prog_12_method_63_code
def yX10_dive : MethodName := ⟨RX10, "dive", "(II)I"⟩
abbrev cX10_power : ByteArray := prog_12_method_64_code
def yX10_power : MethodName := ⟨RX10, "power", "(JI)J"⟩
abbrev cX10_dry : ByteArray := prog_12_method_65_code
def yX10_dry : MethodName := ⟨RX10, "dry", "(IIIZ)J"⟩
abbrev cX10_keep : ByteArray := prog_12_method_66_code
def yX10_keep : MethodName := ⟨RX10, "keep", "(I)I"⟩
abbrev cX10_again : ByteArray := prog_12_method_67_code
def yX10_again : MethodName := ⟨RX10, "again", "(I)I"⟩
def RJ6 : String := "java/lang/Integer"
def TJ6 : u_T := fun k => match k with
  | _ => ("", "", "", false)
def tyJ6 : Nat → FieldType := fun k => match k with
  | _ => .int
abbrev cJ6_bitCount_0f7a4 : ByteArray := prog_13_method_49_code
def yJ6_bitCount_0f7a4 : MethodName := ⟨RJ6, "bitCount", "(I)I"⟩
def RJ9 : String := "java/lang/Math"
def TJ9 : u_T := fun k => match k with
  | _ => ("", "", "", false)
def tyJ9 : Nat → FieldType := fun k => match k with
  | _ => .int
abbrev cJ9_max_7cf53 : ByteArray := prog_14_method_65_code
def yJ9_max_7cf53 : MethodName := ⟨RJ9, "max", "(II)I"⟩
def RJ10 : String := "java/lang/System"
def TJ10 : u_T := fun k => match k with
  | _ => ("", "", "", false)
def tyJ10 : Nat → FieldType := fun k => match k with
  | _ => .int
def RL : String := "SinkingArchiveLaw"
abbrev cL_law : ByteArray := code
def yL_law : MethodName := ⟨RL, "law", "([I)Z"⟩
abbrev vwCl : List vw_C := [(RX0, TX0, 2), (RX1, TX1, 5), (RX2, TX2, 3), (RX3, TX3, 13), (RX4, TX4, 10), (RX5, TX5, 3), (RX6, TX6, 7), (RX7, TX7, 9), (RX8, TX8, 5), (RX9, TX9, 13), (RX10, TX10, 40)]
