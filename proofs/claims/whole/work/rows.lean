section
/-! names, tables: printed by a program out of what TURN printed; the first part is the kit's own starting text -/
-- ===== PART A: goes FIRST, ahead of the names: the tables' words, and 'selects' of the private methods out of them =====
/-- a private method of a class that the tables say can be made, by its rows of tables_1 -/
def lw_okq (q : MethodName × Nat) : Prop := (q.1.cls ≠ "java/lang/invoke/MethodHandle" ∧ q.1.cls ≠ "java/lang/invoke/VarHandle") ∧ Cond.instantiable q.1.cls q.2 ∈ tables_1 ∧ Cond.privateMethod q.1 ∈ tables_1 ∧ Cond.instanceMethod q.1 ∈ tables_1
theorem lw_p0 : lw_okq (⟨"CarryAlike$NetReader", "accepts", "(C)Z"⟩, 8) := ⟨⟨by decide +kernel, by decide +kernel⟩, List.mem_of_getElem? (i := 42) (by decide +kernel), List.mem_of_getElem? (i := 391) (by decide +kernel), List.mem_of_getElem? (i := 392) (by decide +kernel)⟩
theorem lw_p1 : lw_okq (⟨"CarryAlike$NetReader", "acceptsFirst", "(C)Z"⟩, 8) := ⟨⟨by decide +kernel, by decide +kernel⟩, List.mem_of_getElem? (i := 42) (by decide +kernel), List.mem_of_getElem? (i := 395) (by decide +kernel), List.mem_of_getElem? (i := 396) (by decide +kernel)⟩
theorem lw_p2 : lw_okq (⟨"CarryAlike$NetReader", "acceptsSecond", "(C)Z"⟩, 8) := ⟨⟨by decide +kernel, by decide +kernel⟩, List.mem_of_getElem? (i := 42) (by decide +kernel), List.mem_of_getElem? (i := 409) (by decide +kernel), List.mem_of_getElem? (i := 410) (by decide +kernel)⟩
theorem lw_p3 : lw_okq (⟨"CarryAlike$NetReader", "acceptsWide", "()Z"⟩, 8) := ⟨⟨by decide +kernel, by decide +kernel⟩, List.mem_of_getElem? (i := 42) (by decide +kernel), List.mem_of_getElem? (i := 413) (by decide +kernel), List.mem_of_getElem? (i := 414) (by decide +kernel)⟩
theorem lw_p4 : lw_okq (⟨"CarryAlike$NetReader", "acceptsMark", "(C)Z"⟩, 8) := ⟨⟨by decide +kernel, by decide +kernel⟩, List.mem_of_getElem? (i := 42) (by decide +kernel), List.mem_of_getElem? (i := 417) (by decide +kernel), List.mem_of_getElem? (i := 418) (by decide +kernel)⟩
theorem lw_p5 : lw_okq (⟨"CarryAlike$NetReader", "acceptsDoubles", "()Z"⟩, 8) := ⟨⟨by decide +kernel, by decide +kernel⟩, List.mem_of_getElem? (i := 42) (by decide +kernel), List.mem_of_getElem? (i := 421) (by decide +kernel), List.mem_of_getElem? (i := 422) (by decide +kernel)⟩
theorem lw_p6 : lw_okq (⟨"CarryAlike$NetReader", "acceptsEmpties", "()Z"⟩, 8) := ⟨⟨by decide +kernel, by decide +kernel⟩, List.mem_of_getElem? (i := 42) (by decide +kernel), List.mem_of_getElem? (i := 425) (by decide +kernel), List.mem_of_getElem? (i := 426) (by decide +kernel)⟩
theorem lw_p7 : lw_okq (⟨"CarryAlike$Net", "listSteps", "()V"⟩, 9) := ⟨⟨by decide +kernel, by decide +kernel⟩, List.mem_of_getElem? (i := 81) (by decide +kernel), List.mem_of_getElem? (i := 446) (by decide +kernel), List.mem_of_getElem? (i := 447) (by decide +kernel)⟩
theorem lw_p8 : lw_okq (⟨"CarryAlike", "leadsOn", "(I)Z"⟩, 12) := ⟨⟨by decide +kernel, by decide +kernel⟩, List.mem_of_getElem? (i := 17) (by decide +kernel), List.mem_of_getElem? (i := 509) (by decide +kernel), List.mem_of_getElem? (i := 510) (by decide +kernel)⟩
theorem lw_p9 : lw_okq (⟨"CarryAlike$Morning", "meet", "()I"⟩, 11) := ⟨⟨by decide +kernel, by decide +kernel⟩, List.mem_of_getElem? (i := 197) (by decide +kernel), List.mem_of_getElem? (i := 571) (by decide +kernel), List.mem_of_getElem? (i := 572) (by decide +kernel)⟩
theorem lw_p10 : lw_okq (⟨"CarryAlike$Morning", "goBack", "(II)Z"⟩, 11) := ⟨⟨by decide +kernel, by decide +kernel⟩, List.mem_of_getElem? (i := 197) (by decide +kernel), List.mem_of_getElem? (i := 579) (by decide +kernel), List.mem_of_getElem? (i := 580) (by decide +kernel)⟩
theorem lw_p11 : lw_okq (⟨"CarryAlike$Morning", "settle", "()V"⟩, 11) := ⟨⟨by decide +kernel, by decide +kernel⟩, List.mem_of_getElem? (i := 197) (by decide +kernel), List.mem_of_getElem? (i := 583) (by decide +kernel), List.mem_of_getElem? (i := 584) (by decide +kernel)⟩
theorem lw_p12 : lw_okq (⟨"CarryAlike", "mayPlan", "()Z"⟩, 12) := ⟨⟨by decide +kernel, by decide +kernel⟩, List.mem_of_getElem? (i := 17) (by decide +kernel), List.mem_of_getElem? (i := 603) (by decide +kernel), List.mem_of_getElem? (i := 604) (by decide +kernel)⟩
theorem lw_p13 : lw_okq (⟨"CarryAlike$Planner", "spread", "(I)V"⟩, 13) := ⟨⟨by decide +kernel, by decide +kernel⟩, List.mem_of_getElem? (i := 278) (by decide +kernel), List.mem_of_getElem? (i := 618) (by decide +kernel), List.mem_of_getElem? (i := 619) (by decide +kernel)⟩
theorem lw_p14 : lw_okq (⟨"CarryAlike$Planner", "stepsOf", "(II)I"⟩, 13) := ⟨⟨by decide +kernel, by decide +kernel⟩, List.mem_of_getElem? (i := 278) (by decide +kernel), List.mem_of_getElem? (i := 625) (by decide +kernel), List.mem_of_getElem? (i := 626) (by decide +kernel)⟩
theorem lw_p15 : lw_okq (⟨"CarryAlike$Planner", "clash", "(IIII)Z"⟩, 13) := ⟨⟨by decide +kernel, by decide +kernel⟩, List.mem_of_getElem? (i := 278) (by decide +kernel), List.mem_of_getElem? (i := 637) (by decide +kernel), List.mem_of_getElem? (i := 638) (by decide +kernel)⟩
def lw_privs_1 : List (MethodName × Nat) := [(⟨"CarryAlike$NetReader", "accepts", "(C)Z"⟩, 8), (⟨"CarryAlike$NetReader", "acceptsFirst", "(C)Z"⟩, 8), (⟨"CarryAlike$NetReader", "acceptsSecond", "(C)Z"⟩, 8), (⟨"CarryAlike$NetReader", "acceptsWide", "()Z"⟩, 8), (⟨"CarryAlike$NetReader", "acceptsMark", "(C)Z"⟩, 8), (⟨"CarryAlike$NetReader", "acceptsDoubles", "()Z"⟩, 8), (⟨"CarryAlike$NetReader", "acceptsEmpties", "()Z"⟩, 8), (⟨"CarryAlike$Net", "listSteps", "()V"⟩, 9), (⟨"CarryAlike", "leadsOn", "(I)Z"⟩, 12), (⟨"CarryAlike$Morning", "meet", "()I"⟩, 11), (⟨"CarryAlike$Morning", "goBack", "(II)Z"⟩, 11), (⟨"CarryAlike$Morning", "settle", "()V"⟩, 11), (⟨"CarryAlike", "mayPlan", "()Z"⟩, 12), (⟨"CarryAlike$Planner", "spread", "(I)V"⟩, 13), (⟨"CarryAlike$Planner", "stepsOf", "(II)I"⟩, 13), (⟨"CarryAlike$Planner", "clash", "(IIII)Z"⟩, 13)]
theorem lw_r1 : ∀ q ∈ lw_privs_1, lw_okq q := List.forall_mem_cons.mpr ⟨lw_p0, List.forall_mem_cons.mpr ⟨lw_p1, List.forall_mem_cons.mpr ⟨lw_p2, List.forall_mem_cons.mpr ⟨lw_p3, List.forall_mem_cons.mpr ⟨lw_p4, List.forall_mem_cons.mpr ⟨lw_p5, List.forall_mem_cons.mpr ⟨lw_p6, List.forall_mem_cons.mpr ⟨lw_p7, List.forall_mem_cons.mpr ⟨lw_p8, List.forall_mem_cons.mpr ⟨lw_p9, List.forall_mem_cons.mpr ⟨lw_p10, List.forall_mem_cons.mpr ⟨lw_p11, List.forall_mem_cons.mpr ⟨lw_p12, List.forall_mem_cons.mpr ⟨lw_p13, List.forall_mem_cons.mpr ⟨lw_p14, List.forall_mem_cons.mpr ⟨lw_p15, fun _ h => absurd h List.not_mem_nil⟩⟩⟩⟩⟩⟩⟩⟩⟩⟩⟩⟩⟩⟩⟩⟩
theorem lw_p16 : lw_okq (⟨"CarryAlike$Planner", "reach", "(II)V"⟩, 13) := ⟨⟨by decide +kernel, by decide +kernel⟩, List.mem_of_getElem? (i := 278) (by decide +kernel), List.mem_of_getElem? (i := 642) (by decide +kernel), List.mem_of_getElem? (i := 643) (by decide +kernel)⟩
theorem lw_p17 : lw_okq (⟨"CarryAlike$Planner", "canGo", "(II)Z"⟩, 13) := ⟨⟨by decide +kernel, by decide +kernel⟩, List.mem_of_getElem? (i := 278) (by decide +kernel), List.mem_of_getElem? (i := 650) (by decide +kernel), List.mem_of_getElem? (i := 651) (by decide +kernel)⟩
theorem lw_p18 : lw_okq (⟨"CarryAlike$Loads", "gather", "(I)V"⟩, 10) := ⟨⟨by decide +kernel, by decide +kernel⟩, List.mem_of_getElem? (i := 241) (by decide +kernel), List.mem_of_getElem? (i := 672) (by decide +kernel), List.mem_of_getElem? (i := 673) (by decide +kernel)⟩
theorem lw_p19 : lw_okq (⟨"CarryAlike$Loads", "suits", "(II)Z"⟩, 10) := ⟨⟨by decide +kernel, by decide +kernel⟩, List.mem_of_getElem? (i := 241) (by decide +kernel), List.mem_of_getElem? (i := 684) (by decide +kernel), List.mem_of_getElem? (i := 685) (by decide +kernel)⟩
theorem lw_p20 : lw_okq (⟨"CarryAlike", "isSet", "(I)Z"⟩, 12) := ⟨⟨by decide +kernel, by decide +kernel⟩, List.mem_of_getElem? (i := 17) (by decide +kernel), List.mem_of_getElem? (i := 693) (by decide +kernel), List.mem_of_getElem? (i := 694) (by decide +kernel)⟩
theorem lw_p21 : lw_okq (⟨"CarryAlike$Loads", "choices", "(I)I"⟩, 10) := ⟨⟨by decide +kernel, by decide +kernel⟩, List.mem_of_getElem? (i := 241) (by decide +kernel), List.mem_of_getElem? (i := 707) (by decide +kernel), List.mem_of_getElem? (i := 708) (by decide +kernel)⟩
theorem lw_p22 : lw_okq (⟨"CarryAlike$Loads", "tryOthers", "()V"⟩, 10) := ⟨⟨by decide +kernel, by decide +kernel⟩, List.mem_of_getElem? (i := 241) (by decide +kernel), List.mem_of_getElem? (i := 711) (by decide +kernel), List.mem_of_getElem? (i := 712) (by decide +kernel)⟩
theorem lw_p23 : lw_okq (⟨"CarryAlike$Loads", "note", "()V"⟩, 10) := ⟨⟨by decide +kernel, by decide +kernel⟩, List.mem_of_getElem? (i := 241) (by decide +kernel), List.mem_of_getElem? (i := 715) (by decide +kernel), List.mem_of_getElem? (i := 716) (by decide +kernel)⟩
theorem lw_p24 : lw_okq (⟨"CarryAlike$Morning", "draw", "(I)I"⟩, 11) := ⟨⟨by decide +kernel, by decide +kernel⟩, List.mem_of_getElem? (i := 197) (by decide +kernel), List.mem_of_getElem? (i := 740) (by decide +kernel), List.mem_of_getElem? (i := 741) (by decide +kernel)⟩
theorem lw_p25 : lw_okq (⟨"CarryAlike", "withWalker", "(JI)J"⟩, 12) := ⟨⟨by decide +kernel, by decide +kernel⟩, List.mem_of_getElem? (i := 17) (by decide +kernel), List.mem_of_getElem? (i := 796) (by decide +kernel), List.mem_of_getElem? (i := 797) (by decide +kernel)⟩
theorem lw_p26 : lw_okq (⟨"CarryAlikeModel", "readNet", "()V"⟩, 53) := ⟨⟨by decide +kernel, by decide +kernel⟩, List.mem_of_getElem? (i := 805) (by decide +kernel), List.mem_of_getElem? (i := 988) (by decide +kernel), List.mem_of_getElem? (i := 989) (by decide +kernel)⟩
theorem lw_p27 : lw_okq (⟨"CarryAlikeModel", "nextState", "(II)I"⟩, 53) := ⟨⟨by decide +kernel, by decide +kernel⟩, List.mem_of_getElem? (i := 805) (by decide +kernel), List.mem_of_getElem? (i := 992) (by decide +kernel), List.mem_of_getElem? (i := 993) (by decide +kernel)⟩
theorem lw_p28 : lw_okq (⟨"CarryAlikeModel", "isThere", "(II)Z"⟩, 53) := ⟨⟨by decide +kernel, by decide +kernel⟩, List.mem_of_getElem? (i := 805) (by decide +kernel), List.mem_of_getElem? (i := 999) (by decide +kernel), List.mem_of_getElem? (i := 1000) (by decide +kernel)⟩
theorem lw_p29 : lw_okq (⟨"CarryAlikeModel", "readWay", "()V"⟩, 53) := ⟨⟨by decide +kernel, by decide +kernel⟩, List.mem_of_getElem? (i := 805) (by decide +kernel), List.mem_of_getElem? (i := 1003) (by decide +kernel), List.mem_of_getElem? (i := 1004) (by decide +kernel)⟩
theorem lw_p30 : lw_okq (⟨"CarryAlikeModel", "laneNow", "(II)I"⟩, 53) := ⟨⟨by decide +kernel, by decide +kernel⟩, List.mem_of_getElem? (i := 805) (by decide +kernel), List.mem_of_getElem? (i := 1015) (by decide +kernel), List.mem_of_getElem? (i := 1016) (by decide +kernel)⟩
theorem lw_p31 : lw_okq (⟨"CarryAlikeModel", "isWalker", "(I)Z"⟩, 53) := ⟨⟨by decide +kernel, by decide +kernel⟩, List.mem_of_getElem? (i := 805) (by decide +kernel), List.mem_of_getElem? (i := 1027) (by decide +kernel), List.mem_of_getElem? (i := 1028) (by decide +kernel)⟩
def lw_privs_2 : List (MethodName × Nat) := [(⟨"CarryAlike$Planner", "reach", "(II)V"⟩, 13), (⟨"CarryAlike$Planner", "canGo", "(II)Z"⟩, 13), (⟨"CarryAlike$Loads", "gather", "(I)V"⟩, 10), (⟨"CarryAlike$Loads", "suits", "(II)Z"⟩, 10), (⟨"CarryAlike", "isSet", "(I)Z"⟩, 12), (⟨"CarryAlike$Loads", "choices", "(I)I"⟩, 10), (⟨"CarryAlike$Loads", "tryOthers", "()V"⟩, 10), (⟨"CarryAlike$Loads", "note", "()V"⟩, 10), (⟨"CarryAlike$Morning", "draw", "(I)I"⟩, 11), (⟨"CarryAlike", "withWalker", "(JI)J"⟩, 12), (⟨"CarryAlikeModel", "readNet", "()V"⟩, 53), (⟨"CarryAlikeModel", "nextState", "(II)I"⟩, 53), (⟨"CarryAlikeModel", "isThere", "(II)Z"⟩, 53), (⟨"CarryAlikeModel", "readWay", "()V"⟩, 53), (⟨"CarryAlikeModel", "laneNow", "(II)I"⟩, 53), (⟨"CarryAlikeModel", "isWalker", "(I)Z"⟩, 53)]
theorem lw_r2 : ∀ q ∈ lw_privs_2, lw_okq q := List.forall_mem_cons.mpr ⟨lw_p16, List.forall_mem_cons.mpr ⟨lw_p17, List.forall_mem_cons.mpr ⟨lw_p18, List.forall_mem_cons.mpr ⟨lw_p19, List.forall_mem_cons.mpr ⟨lw_p20, List.forall_mem_cons.mpr ⟨lw_p21, List.forall_mem_cons.mpr ⟨lw_p22, List.forall_mem_cons.mpr ⟨lw_p23, List.forall_mem_cons.mpr ⟨lw_p24, List.forall_mem_cons.mpr ⟨lw_p25, List.forall_mem_cons.mpr ⟨lw_p26, List.forall_mem_cons.mpr ⟨lw_p27, List.forall_mem_cons.mpr ⟨lw_p28, List.forall_mem_cons.mpr ⟨lw_p29, List.forall_mem_cons.mpr ⟨lw_p30, List.forall_mem_cons.mpr ⟨lw_p31, fun _ h => absurd h List.not_mem_nil⟩⟩⟩⟩⟩⟩⟩⟩⟩⟩⟩⟩⟩⟩⟩⟩
theorem lw_p32 : lw_okq (⟨"CarryAlikeModel", "walkerNow", "(II)I"⟩, 53) := ⟨⟨by decide +kernel, by decide +kernel⟩, List.mem_of_getElem? (i := 805) (by decide +kernel), List.mem_of_getElem? (i := 1031) (by decide +kernel), List.mem_of_getElem? (i := 1032) (by decide +kernel)⟩
theorem lw_p33 : lw_okq (⟨"CarryAlikeModel", "carries", "(I)I"⟩, 53) := ⟨⟨by decide +kernel, by decide +kernel⟩, List.mem_of_getElem? (i := 805) (by decide +kernel), List.mem_of_getElem? (i := 1035) (by decide +kernel), List.mem_of_getElem? (i := 1036) (by decide +kernel)⟩
theorem lw_p34 : lw_okq (⟨"CarryAlikeModel", "wanted", "(I)I"⟩, 53) := ⟨⟨by decide +kernel, by decide +kernel⟩, List.mem_of_getElem? (i := 805) (by decide +kernel), List.mem_of_getElem? (i := 1039) (by decide +kernel), List.mem_of_getElem? (i := 1040) (by decide +kernel)⟩
theorem lw_p35 : lw_okq (⟨"CarryAlikeModel", "laneOf", "(II)I"⟩, 53) := ⟨⟨by decide +kernel, by decide +kernel⟩, List.mem_of_getElem? (i := 805) (by decide +kernel), List.mem_of_getElem? (i := 1051) (by decide +kernel), List.mem_of_getElem? (i := 1052) (by decide +kernel)⟩
theorem lw_p36 : lw_okq (⟨"CarryAlikeModel", "mayPass", "(II)Z"⟩, 53) := ⟨⟨by decide +kernel, by decide +kernel⟩, List.mem_of_getElem? (i := 805) (by decide +kernel), List.mem_of_getElem? (i := 1063) (by decide +kernel), List.mem_of_getElem? (i := 1064) (by decide +kernel)⟩
theorem lw_p37 : lw_okq (⟨"CarryAlikeModel", "goMinute", "()I"⟩, 53) := ⟨⟨by decide +kernel, by decide +kernel⟩, List.mem_of_getElem? (i := 805) (by decide +kernel), List.mem_of_getElem? (i := 1079) (by decide +kernel), List.mem_of_getElem? (i := 1080) (by decide +kernel)⟩
theorem lw_p38 : lw_okq (⟨"CarryAlikeModel", "layBack", "()I"⟩, 53) := ⟨⟨by decide +kernel, by decide +kernel⟩, List.mem_of_getElem? (i := 805) (by decide +kernel), List.mem_of_getElem? (i := 1083) (by decide +kernel), List.mem_of_getElem? (i := 1084) (by decide +kernel)⟩
theorem lw_p39 : lw_okq (⟨"CarryAlikeModel", "cannot", "(II)Z"⟩, 53) := ⟨⟨by decide +kernel, by decide +kernel⟩, List.mem_of_getElem? (i := 805) (by decide +kernel), List.mem_of_getElem? (i := 1087) (by decide +kernel), List.mem_of_getElem? (i := 1088) (by decide +kernel)⟩
theorem lw_p40 : lw_okq (⟨"CarryAlikeModel", "firstNow", "(I)I"⟩, 53) := ⟨⟨by decide +kernel, by decide +kernel⟩, List.mem_of_getElem? (i := 805) (by decide +kernel), List.mem_of_getElem? (i := 1098) (by decide +kernel), List.mem_of_getElem? (i := 1099) (by decide +kernel)⟩
theorem lw_p41 : lw_okq (⟨"CarryAlikeModel", "firstOf", "(I)I"⟩, 53) := ⟨⟨by decide +kernel, by decide +kernel⟩, List.mem_of_getElem? (i := 805) (by decide +kernel), List.mem_of_getElem? (i := 1102) (by decide +kernel), List.mem_of_getElem? (i := 1103) (by decide +kernel)⟩
theorem lw_p42 : lw_okq (⟨"CarryAlikeModel", "save", "()V"⟩, 53) := ⟨⟨by decide +kernel, by decide +kernel⟩, List.mem_of_getElem? (i := 805) (by decide +kernel), List.mem_of_getElem? (i := 1106) (by decide +kernel), List.mem_of_getElem? (i := 1107) (by decide +kernel)⟩
theorem lw_p43 : lw_okq (⟨"CarryAlikeModel", "isAnyLeft", "()Z"⟩, 53) := ⟨⟨by decide +kernel, by decide +kernel⟩, List.mem_of_getElem? (i := 805) (by decide +kernel), List.mem_of_getElem? (i := 1110) (by decide +kernel), List.mem_of_getElem? (i := 1111) (by decide +kernel)⟩
theorem lw_p44 : lw_okq (⟨"CarryAlikeModel", "back", "()V"⟩, 53) := ⟨⟨by decide +kernel, by decide +kernel⟩, List.mem_of_getElem? (i := 805) (by decide +kernel), List.mem_of_getElem? (i := 1114) (by decide +kernel), List.mem_of_getElem? (i := 1115) (by decide +kernel)⟩
theorem lw_p45 : lw_okq (⟨"CarryAlikeModel", "soonestNow", "(I)I"⟩, 53) := ⟨⟨by decide +kernel, by decide +kernel⟩, List.mem_of_getElem? (i := 805) (by decide +kernel), List.mem_of_getElem? (i := 1122) (by decide +kernel), List.mem_of_getElem? (i := 1123) (by decide +kernel)⟩
theorem lw_p46 : lw_okq (⟨"CarryAlikeModel", "soonestOf", "()I"⟩, 53) := ⟨⟨by decide +kernel, by decide +kernel⟩, List.mem_of_getElem? (i := 805) (by decide +kernel), List.mem_of_getElem? (i := 1126) (by decide +kernel), List.mem_of_getElem? (i := 1127) (by decide +kernel)⟩
theorem lw_p47 : lw_okq (⟨"CarryAlikeModel", "codeOf", "(Z)I"⟩, 53) := ⟨⟨by decide +kernel, by decide +kernel⟩, List.mem_of_getElem? (i := 805) (by decide +kernel), List.mem_of_getElem? (i := 1130) (by decide +kernel), List.mem_of_getElem? (i := 1131) (by decide +kernel)⟩
def lw_privs_3 : List (MethodName × Nat) := [(⟨"CarryAlikeModel", "walkerNow", "(II)I"⟩, 53), (⟨"CarryAlikeModel", "carries", "(I)I"⟩, 53), (⟨"CarryAlikeModel", "wanted", "(I)I"⟩, 53), (⟨"CarryAlikeModel", "laneOf", "(II)I"⟩, 53), (⟨"CarryAlikeModel", "mayPass", "(II)Z"⟩, 53), (⟨"CarryAlikeModel", "goMinute", "()I"⟩, 53), (⟨"CarryAlikeModel", "layBack", "()I"⟩, 53), (⟨"CarryAlikeModel", "cannot", "(II)Z"⟩, 53), (⟨"CarryAlikeModel", "firstNow", "(I)I"⟩, 53), (⟨"CarryAlikeModel", "firstOf", "(I)I"⟩, 53), (⟨"CarryAlikeModel", "save", "()V"⟩, 53), (⟨"CarryAlikeModel", "isAnyLeft", "()Z"⟩, 53), (⟨"CarryAlikeModel", "back", "()V"⟩, 53), (⟨"CarryAlikeModel", "soonestNow", "(I)I"⟩, 53), (⟨"CarryAlikeModel", "soonestOf", "()I"⟩, 53), (⟨"CarryAlikeModel", "codeOf", "(Z)I"⟩, 53)]
theorem lw_r3 : ∀ q ∈ lw_privs_3, lw_okq q := List.forall_mem_cons.mpr ⟨lw_p32, List.forall_mem_cons.mpr ⟨lw_p33, List.forall_mem_cons.mpr ⟨lw_p34, List.forall_mem_cons.mpr ⟨lw_p35, List.forall_mem_cons.mpr ⟨lw_p36, List.forall_mem_cons.mpr ⟨lw_p37, List.forall_mem_cons.mpr ⟨lw_p38, List.forall_mem_cons.mpr ⟨lw_p39, List.forall_mem_cons.mpr ⟨lw_p40, List.forall_mem_cons.mpr ⟨lw_p41, List.forall_mem_cons.mpr ⟨lw_p42, List.forall_mem_cons.mpr ⟨lw_p43, List.forall_mem_cons.mpr ⟨lw_p44, List.forall_mem_cons.mpr ⟨lw_p45, List.forall_mem_cons.mpr ⟨lw_p46, List.forall_mem_cons.mpr ⟨lw_p47, fun _ h => absurd h List.not_mem_nil⟩⟩⟩⟩⟩⟩⟩⟩⟩⟩⟩⟩⟩⟩⟩⟩
theorem lw_p48 : lw_okq (⟨"CarryAlikeModel", "layNear", "()V"⟩, 53) := ⟨⟨by decide +kernel, by decide +kernel⟩, List.mem_of_getElem? (i := 805) (by decide +kernel), List.mem_of_getElem? (i := 1134) (by decide +kernel), List.mem_of_getElem? (i := 1135) (by decide +kernel)⟩
theorem lw_p49 : lw_okq (⟨"CarryAlikeModel", "mayGo", "(II)Z"⟩, 53) := ⟨⟨by decide +kernel, by decide +kernel⟩, List.mem_of_getElem? (i := 805) (by decide +kernel), List.mem_of_getElem? (i := 1138) (by decide +kernel), List.mem_of_getElem? (i := 1139) (by decide +kernel)⟩
theorem lw_p50 : lw_okq (⟨"CarryAlikeModel", "stepOf", "(I)I"⟩, 53) := ⟨⟨by decide +kernel, by decide +kernel⟩, List.mem_of_getElem? (i := 805) (by decide +kernel), List.mem_of_getElem? (i := 1142) (by decide +kernel), List.mem_of_getElem? (i := 1143) (by decide +kernel)⟩
theorem lw_p51 : lw_okq (⟨"CarryAlikeModel", "widerNow", "(I)I"⟩, 53) := ⟨⟨by decide +kernel, by decide +kernel⟩, List.mem_of_getElem? (i := 805) (by decide +kernel), List.mem_of_getElem? (i := 1151) (by decide +kernel), List.mem_of_getElem? (i := 1152) (by decide +kernel)⟩
theorem lw_p52 : lw_okq (⟨"CarryAlikeModel", "enoughNow", "(I)I"⟩, 53) := ⟨⟨by decide +kernel, by decide +kernel⟩, List.mem_of_getElem? (i := 805) (by decide +kernel), List.mem_of_getElem? (i := 1159) (by decide +kernel), List.mem_of_getElem? (i := 1160) (by decide +kernel)⟩
theorem lw_p53 : lw_okq (⟨"CarryAlikeModel", "isSet", "(I)Z"⟩, 53) := ⟨⟨by decide +kernel, by decide +kernel⟩, List.mem_of_getElem? (i := 805) (by decide +kernel), List.mem_of_getElem? (i := 1167) (by decide +kernel), List.mem_of_getElem? (i := 1168) (by decide +kernel)⟩
theorem lw_p54 : lw_okq (⟨"CarryAlikeModel", "fitsNow", "(II)I"⟩, 53) := ⟨⟨by decide +kernel, by decide +kernel⟩, List.mem_of_getElem? (i := 805) (by decide +kernel), List.mem_of_getElem? (i := 1174) (by decide +kernel), List.mem_of_getElem? (i := 1175) (by decide +kernel)⟩
theorem lw_p55 : lw_okq (⟨"CarryAlikeModel", "sureNow", "(II)I"⟩, 53) := ⟨⟨by decide +kernel, by decide +kernel⟩, List.mem_of_getElem? (i := 805) (by decide +kernel), List.mem_of_getElem? (i := 1182) (by decide +kernel), List.mem_of_getElem? (i := 1183) (by decide +kernel)⟩
theorem lw_p56 : lw_okq (⟨"CarryAlikeModel", "crowdNow", "(III)I"⟩, 53) := ⟨⟨by decide +kernel, by decide +kernel⟩, List.mem_of_getElem? (i := 805) (by decide +kernel), List.mem_of_getElem? (i := 1190) (by decide +kernel), List.mem_of_getElem? (i := 1191) (by decide +kernel)⟩
theorem lw_p57 : lw_okq (⟨"CarryAlikeModel", "degree", "(I)I"⟩, 53) := ⟨⟨by decide +kernel, by decide +kernel⟩, List.mem_of_getElem? (i := 805) (by decide +kernel), List.mem_of_getElem? (i := 1194) (by decide +kernel), List.mem_of_getElem? (i := 1195) (by decide +kernel)⟩
theorem lw_p58 : lw_okq (⟨"CarryAlikeModel", "draw", "(I)I"⟩, 53) := ⟨⟨by decide +kernel, by decide +kernel⟩, List.mem_of_getElem? (i := 805) (by decide +kernel), List.mem_of_getElem? (i := 1198) (by decide +kernel), List.mem_of_getElem? (i := 1199) (by decide +kernel)⟩
theorem lw_p59 : lw_okq (⟨"CarryAlikeModel", "joined", "(II)I"⟩, 53) := ⟨⟨by decide +kernel, by decide +kernel⟩, List.mem_of_getElem? (i := 805) (by decide +kernel), List.mem_of_getElem? (i := 1206) (by decide +kernel), List.mem_of_getElem? (i := 1207) (by decide +kernel)⟩
theorem lw_p60 : lw_okq (⟨"CarryAlikeModel", "atGoal", "()I"⟩, 53) := ⟨⟨by decide +kernel, by decide +kernel⟩, List.mem_of_getElem? (i := 805) (by decide +kernel), List.mem_of_getElem? (i := 1210) (by decide +kernel), List.mem_of_getElem? (i := 1211) (by decide +kernel)⟩
theorem lw_p61 : lw_okq (⟨"CarryAlikeModel", "howMany", "(I)I"⟩, 53) := ⟨⟨by decide +kernel, by decide +kernel⟩, List.mem_of_getElem? (i := 805) (by decide +kernel), List.mem_of_getElem? (i := 1226) (by decide +kernel), List.mem_of_getElem? (i := 1227) (by decide +kernel)⟩
theorem lw_p62 : lw_okq (⟨"CarryAlikeModel", "wideMany", "()I"⟩, 53) := ⟨⟨by decide +kernel, by decide +kernel⟩, List.mem_of_getElem? (i := 805) (by decide +kernel), List.mem_of_getElem? (i := 1230) (by decide +kernel), List.mem_of_getElem? (i := 1231) (by decide +kernel)⟩
theorem lw_p63 : lw_okq (⟨"CarryAlikeModel", "mix", "(J)V"⟩, 53) := ⟨⟨by decide +kernel, by decide +kernel⟩, List.mem_of_getElem? (i := 805) (by decide +kernel), List.mem_of_getElem? (i := 1239) (by decide +kernel), List.mem_of_getElem? (i := 1240) (by decide +kernel)⟩
def lw_privs_4 : List (MethodName × Nat) := [(⟨"CarryAlikeModel", "layNear", "()V"⟩, 53), (⟨"CarryAlikeModel", "mayGo", "(II)Z"⟩, 53), (⟨"CarryAlikeModel", "stepOf", "(I)I"⟩, 53), (⟨"CarryAlikeModel", "widerNow", "(I)I"⟩, 53), (⟨"CarryAlikeModel", "enoughNow", "(I)I"⟩, 53), (⟨"CarryAlikeModel", "isSet", "(I)Z"⟩, 53), (⟨"CarryAlikeModel", "fitsNow", "(II)I"⟩, 53), (⟨"CarryAlikeModel", "sureNow", "(II)I"⟩, 53), (⟨"CarryAlikeModel", "crowdNow", "(III)I"⟩, 53), (⟨"CarryAlikeModel", "degree", "(I)I"⟩, 53), (⟨"CarryAlikeModel", "draw", "(I)I"⟩, 53), (⟨"CarryAlikeModel", "joined", "(II)I"⟩, 53), (⟨"CarryAlikeModel", "atGoal", "()I"⟩, 53), (⟨"CarryAlikeModel", "howMany", "(I)I"⟩, 53), (⟨"CarryAlikeModel", "wideMany", "()I"⟩, 53), (⟨"CarryAlikeModel", "mix", "(J)V"⟩, 53)]
theorem lw_r4 : ∀ q ∈ lw_privs_4, lw_okq q := List.forall_mem_cons.mpr ⟨lw_p48, List.forall_mem_cons.mpr ⟨lw_p49, List.forall_mem_cons.mpr ⟨lw_p50, List.forall_mem_cons.mpr ⟨lw_p51, List.forall_mem_cons.mpr ⟨lw_p52, List.forall_mem_cons.mpr ⟨lw_p53, List.forall_mem_cons.mpr ⟨lw_p54, List.forall_mem_cons.mpr ⟨lw_p55, List.forall_mem_cons.mpr ⟨lw_p56, List.forall_mem_cons.mpr ⟨lw_p57, List.forall_mem_cons.mpr ⟨lw_p58, List.forall_mem_cons.mpr ⟨lw_p59, List.forall_mem_cons.mpr ⟨lw_p60, List.forall_mem_cons.mpr ⟨lw_p61, List.forall_mem_cons.mpr ⟨lw_p62, List.forall_mem_cons.mpr ⟨lw_p63, fun _ h => absurd h List.not_mem_nil⟩⟩⟩⟩⟩⟩⟩⟩⟩⟩⟩⟩⟩⟩⟩⟩
theorem lw_p64 : lw_okq (⟨"CarryAlikeModel", "mixWalker", "(I)V"⟩, 53) := ⟨⟨by decide +kernel, by decide +kernel⟩, List.mem_of_getElem? (i := 805) (by decide +kernel), List.mem_of_getElem? (i := 1244) (by decide +kernel), List.mem_of_getElem? (i := 1245) (by decide +kernel)⟩
def lw_privs_5 : List (MethodName × Nat) := [(⟨"CarryAlikeModel", "mixWalker", "(I)V"⟩, 53)]
theorem lw_r5 : ∀ q ∈ lw_privs_5, lw_okq q := List.forall_mem_cons.mpr ⟨lw_p64, fun _ h => absurd h List.not_mem_nil⟩
def lw_privs : List (MethodName × Nat) := lw_privs_1 ++ (lw_privs_2 ++ (lw_privs_3 ++ (lw_privs_4 ++ (lw_privs_5))))
def lw_tbl : List Cond := k2_sels lw_privs ++ tables_1
theorem lw_privs_ok : ∀ q ∈ lw_privs, lw_okq q := by
  show ∀ q ∈ lw_privs_1 ++ (lw_privs_2 ++ (lw_privs_3 ++ (lw_privs_4 ++ (lw_privs_5)))), lw_okq q
  exact List.forall_mem_append.mpr ⟨lw_r1, List.forall_mem_append.mpr ⟨lw_r2, List.forall_mem_append.mpr ⟨lw_r3, List.forall_mem_append.mpr ⟨lw_r4, lw_r5⟩⟩⟩⟩
def RX0 : String := "CarryAlike$Loads"
def TX0 : u_T := fun k => match k with
  | 0 => ("CarryAlike$Loads", "net", "LCarryAlike$Net;", true)
  | 1 => ("CarryAlike$Loads", "town", "LCarryAlike$Town;", true)
  | 2 => ("CarryAlike$Loads", "morning", "LCarryAlike$Morning;", true)
  | 3 => ("CarryAlike$Loads", "trial", "[I", true)
  | 4 => ("CarryAlike$Loads", "members", "[I", true)
  | 5 => ("CarryAlike$Loads", "size", "I", false)
  | 6 => ("CarryAlike$Loads", "set", "I", false)
  | 7 => ("CarryAlike$Loads", "ways", "I", false)
  | 8 => ("CarryAlike$Loads", "least", "[I", true)
  | _ => ("CarryAlike$Loads", "most", "[I", true)
def RX1 : String := "CarryAlike$Morning"
def TX1 : u_T := fun k => match k with
  | 0 => ("CarryAlike$Morning", "net", "LCarryAlike$Net;", true)
  | 1 => ("CarryAlike$Morning", "town", "LCarryAlike$Town;", true)
  | 2 => ("CarryAlike$Morning", "corner", "[I", true)
  | 3 => ("CarryAlike$Morning", "done", "[I", true)
  | 4 => ("CarryAlike$Morning", "want", "[I", true)
  | 5 => ("CarryAlike$Morning", "back", "[Z", true)
  | 6 => ("CarryAlike$Morning", "passes", "[I", true)
  | 7 => ("CarryAlike$Morning", "met", "[I", true)
  | 8 => ("CarryAlike$Morning", "lesser", "I", false)
  | 9 => ("CarryAlike$Morning", "greater", "I", false)
  | _ => ("CarryAlike$Morning", "seed", "J", false)
def RX2 : String := "CarryAlike$Net"
def TX2 : u_T := fun k => match k with
  | 0 => ("CarryAlike$Net", "from", "[I", true)
  | 1 => ("CarryAlike$Net", "to", "[I", true)
  | 2 => ("CarryAlike$Net", "wide", "[Z", true)
  | 3 => ("CarryAlike$Net", "lanes", "I", false)
  | 4 => ("CarryAlike$Net", "doubles", "Z", false)
  | 5 => ("CarryAlike$Net", "empties", "Z", false)
  | 6 => ("CarryAlike$Net", "between", "[I", true)
  | 7 => ("CarryAlike$Net", "steps", "[I", true)
  | _ => ("CarryAlike$Net", "stepCount", "[I", true)
def RX3 : String := "CarryAlike$NetReader"
def TX3 : u_T := fun k => match k with
  | 0 => ("CarryAlike$NetReader", "from", "[I", true)
  | 1 => ("CarryAlike$NetReader", "to", "[I", true)
  | 2 => ("CarryAlike$NetReader", "wide", "[Z", true)
  | 3 => ("CarryAlike$NetReader", "lanes", "I", false)
  | 4 => ("CarryAlike$NetReader", "doubles", "Z", false)
  | 5 => ("CarryAlike$NetReader", "empties", "Z", false)
  | 6 => ("CarryAlike$NetReader", "state", "I", false)
  | _ => ("CarryAlike$NetReader", "joined", "J", false)
def RX4 : String := "CarryAlike$Page"
def TX4 : u_T := fun k => match k with
  | 0 => ("CarryAlike$Page", "signs", "[C", true)
  | _ => ("CarryAlike$Page", "length", "I", false)
def RX5 : String := "CarryAlike$Planner"
def TX5 : u_T := fun k => match k with
  | 0 => ("CarryAlike$Planner", "net", "LCarryAlike$Net;", true)
  | 1 => ("CarryAlike$Planner", "town", "LCarryAlike$Town;", true)
  | 2 => ("CarryAlike$Planner", "far", "[I", true)
  | 3 => ("CarryAlike$Planner", "line", "[I", true)
  | 4 => ("CarryAlike$Planner", "lineEnd", "I", false)
  | 5 => ("CarryAlike$Planner", "start", "I", false)
  | 6 => ("CarryAlike$Planner", "goals", "I", false)
  | 7 => ("CarryAlike$Planner", "pass01", "Z", false)
  | 8 => ("CarryAlike$Planner", "pass02", "Z", false)
  | 9 => ("CarryAlike$Planner", "pass12", "Z", false)
  | 10 => ("CarryAlike$Planner", "widened", "I", false)
  | 11 => ("CarryAlike$Planner", "bestLane", "I", false)
  | _ => ("CarryAlike$Planner", "bestMinutes", "I", false)
def RX6 : String := "CarryAlike$Town"
def TX6 : u_T := fun k => match k with
  | 0 => ("CarryAlike$Town", "walkers", "[LCarryAlike$Walker;", true)
  | 1 => ("CarryAlike$Town", "size", "I", false)
  | 2 => ("CarryAlike$Town", "heaps", "[I", true)
  | _ => ("CarryAlike$Town", "minutes", "I", false)
def RX7 : String := "CarryAlike$Walker"
def TX7 : u_T := fun k => match k with
  | 0 => ("CarryAlike$Walker", "kind", "I", false)
  | 1 => ("CarryAlike$Walker", "corner", "I", false)
  | 2 => ("CarryAlike$Walker", "goal", "I", false)
  | 3 => ("CarryAlike$Walker", "load", "I", false)
  | 4 => ("CarryAlike$Walker", "way", "[I", true)
  | 5 => ("CarryAlike$Walker", "wayLength", "I", false)
  | _ => ("CarryAlike$Walker", "wayDone", "I", false)
def RX8 : String := "CarryAlike"
def TX8 : u_T := fun k => match k with
  | 0 => ("CarryAlike", "page", "LCarryAlike$Page;", true)
  | 1 => ("CarryAlike", "reader", "LCarryAlike$NetReader;", true)
  | 2 => ("CarryAlike", "net", "LCarryAlike$Net;", true)
  | 3 => ("CarryAlike", "live", "LCarryAlike$Town;", true)
  | 4 => ("CarryAlike", "kept", "LCarryAlike$Town;", true)
  | 5 => ("CarryAlike", "morning", "LCarryAlike$Morning;", true)
  | 6 => ("CarryAlike", "loads", "LCarryAlike$Loads;", true)
  | 7 => ("CarryAlike", "planner", "LCarryAlike$Planner;", true)
  | 8 => ("CarryAlike", "hasNet", "Z", false)
  | 9 => ("CarryAlike", "hasImage", "Z", false)
  | 10 => ("CarryAlike", "netsRead", "I", false)
  | _ => ("CarryAlike", "plansDone", "I", false)
def RX9 : String := "CarryAlikeModel"
def TX9 : u_T := fun k => match k with
  | 0 => ("CarryAlikeModel", "lanes", "I", false)
  | 1 => ("CarryAlikeModel", "laneA", "[I", true)
  | 2 => ("CarryAlikeModel", "laneB", "[I", true)
  | 3 => ("CarryAlikeModel", "isWide", "[Z", true)
  | 4 => ("CarryAlikeModel", "byDouble", "Z", false)
  | 5 => ("CarryAlikeModel", "byNothing", "Z", false)
  | 6 => ("CarryAlikeModel", "nets", "I", false)
  | 7 => ("CarryAlikeModel", "walkers", "I", false)
  | 8 => ("CarryAlikeModel", "kindOf", "[I", true)
  | 9 => ("CarryAlikeModel", "cornerOf", "[I", true)
  | 10 => ("CarryAlikeModel", "goalOf", "[I", true)
  | 11 => ("CarryAlikeModel", "loadOf", "[I", true)
  | 12 => ("CarryAlikeModel", "wayOf", "[I", true)
  | 13 => ("CarryAlikeModel", "wayMany", "[I", true)
  | 14 => ("CarryAlikeModel", "wayAt", "[I", true)
  | 15 => ("CarryAlikeModel", "heapOf", "[I", true)
  | 16 => ("CarryAlikeModel", "minutesGone", "I", false)
  | 17 => ("CarryAlikeModel", "asks", "I", false)
  | 18 => ("CarryAlikeModel", "pageLength", "I", false)
  | 19 => ("CarryAlikeModel", "page", "[B", true)
  | 20 => ("CarryAlikeModel", "faultAt", "I", false)
  | 21 => ("CarryAlikeModel", "isWhole", "Z", false)
  | 22 => ("CarryAlikeModel", "newMany", "I", false)
  | 23 => ("CarryAlikeModel", "newA", "[I", true)
  | 24 => ("CarryAlikeModel", "newB", "[I", true)
  | 25 => ("CarryAlikeModel", "newWide", "[Z", true)
  | 26 => ("CarryAlikeModel", "newDouble", "Z", false)
  | 27 => ("CarryAlikeModel", "newNothing", "Z", false)
  | 28 => ("CarryAlikeModel", "wants", "[I", true)
  | 29 => ("CarryAlikeModel", "goBack", "I", false)
  | 30 => ("CarryAlikeModel", "pairA", "I", false)
  | 31 => ("CarryAlikeModel", "pairB", "I", false)
  | 32 => ("CarryAlikeModel", "savedCorner", "[I", true)
  | 33 => ("CarryAlikeModel", "savedAt", "[I", true)
  | 34 => ("CarryAlikeModel", "savedLoad", "[I", true)
  | 35 => ("CarryAlikeModel", "firstA", "I", false)
  | 36 => ("CarryAlikeModel", "firstB", "I", false)
  | 37 => ("CarryAlikeModel", "farOf", "[I", true)
  | 38 => ("CarryAlikeModel", "queue", "[I", true)
  | 39 => ("CarryAlikeModel", "near", "[I", true)
  | 40 => ("CarryAlikeModel", "mayBe", "I", false)
  | 41 => ("CarryAlikeModel", "seedNow", "J", false)
  | 42 => ("CarryAlikeModel", "isKept", "Z", false)
  | 43 => ("CarryAlikeModel", "keptNet", "I", false)
  | 44 => ("CarryAlikeModel", "keptWalkers", "I", false)
  | 45 => ("CarryAlikeModel", "keptGone", "I", false)
  | 46 => ("CarryAlikeModel", "keptCorner", "[I", true)
  | 47 => ("CarryAlikeModel", "keptLoad", "[I", true)
  | 48 => ("CarryAlikeModel", "keptMany", "[I", true)
  | 49 => ("CarryAlikeModel", "keptAt", "[I", true)
  | 50 => ("CarryAlikeModel", "keptWay", "[I", true)
  | 51 => ("CarryAlikeModel", "keptHeap", "[I", true)
  | _ => ("CarryAlikeModel", "h", "J", false)
abbrev vwCl : List vw_C := [(RX0, TX0, 10), (RX1, TX1, 11), (RX2, TX2, 9), (RX3, TX3, 8), (RX4, TX4, 2), (RX5, TX5, 13), (RX6, TX6, 4), (RX7, TX7, 7), (RX8, TX8, 12), (RX9, TX9, 53)]
def mCn (o : Nat) : String := (["CarryAlike$Loads", "CarryAlike$Morning", "CarryAlike$Net", "CarryAlike$NetReader", "CarryAlike$Page", "CarryAlike$Planner", "CarryAlike$Town", "CarryAlike$Walker", "CarryAlike", "CarryAlikeModel", "CarryAlikeLaw", "java/lang/Integer", "java/lang/Long", "java/util/Arrays"] : List String).getD o ""
def mCount : Nat := 179
def mCdL_0 : List ByteArray := [prog_2_method_1_code, prog_2_method_2_code, prog_2_method_3_code, prog_2_method_4_code, prog_2_method_5_code, prog_2_method_6_code, prog_2_method_7_code, prog_2_method_8_code, prog_2_method_9_code, prog_3_method_1_code, prog_3_method_2_code, prog_3_method_3_code, prog_3_method_4_code, prog_3_method_5_code, prog_3_method_6_code, prog_3_method_7_code, prog_3_method_8_code, prog_3_method_9_code, prog_3_method_10_code, prog_3_method_11_code, prog_3_method_12_code, prog_4_method_1_code, prog_4_method_2_code, prog_4_method_3_code, prog_4_method_4_code, prog_4_method_5_code, prog_4_method_6_code, prog_4_method_7_code, prog_4_method_8_code, prog_4_method_9_code, prog_4_method_10_code, prog_5_method_1_code, prog_5_method_2_code, prog_5_method_3_code, prog_5_method_4_code, prog_5_method_5_code, prog_5_method_6_code, prog_5_method_7_code, prog_5_method_8_code, prog_5_method_9_code]
def mCdL_1 : List ByteArray := [prog_5_method_10_code, prog_6_method_1_code, prog_6_method_2_code, prog_6_method_3_code, prog_6_method_4_code, prog_6_method_5_code, prog_6_method_6_code, prog_7_method_1_code, prog_7_method_2_code, prog_7_method_3_code, prog_7_method_4_code, prog_7_method_5_code, prog_7_method_6_code, prog_7_method_7_code, prog_7_method_8_code, prog_7_method_9_code, prog_7_method_10_code, prog_7_method_11_code, prog_8_method_1_code, prog_8_method_2_code, prog_8_method_3_code, prog_8_method_4_code, prog_8_method_5_code, prog_8_method_6_code, prog_8_method_7_code, prog_9_method_1_code, prog_9_method_2_code, prog_9_method_3_code, prog_9_method_4_code, prog_9_method_5_code, prog_9_method_6_code, prog_1_method_1_code, prog_1_method_2_code, prog_1_method_3_code, prog_1_method_4_code, prog_1_method_5_code, prog_1_method_6_code, prog_1_method_7_code, prog_1_method_8_code, prog_1_method_9_code]
def mCdL_2 : List ByteArray := [prog_1_method_10_code, prog_1_method_11_code, prog_1_method_12_code, prog_1_method_13_code, prog_1_method_14_code, prog_1_method_15_code, prog_1_method_16_code, prog_1_method_17_code, prog_1_method_18_code, prog_1_method_19_code, prog_1_method_20_code, prog_1_method_21_code, prog_1_method_22_code, prog_1_method_23_code, prog_1_method_24_code, prog_1_method_25_code, prog_1_method_26_code, prog_1_method_27_code, prog_1_method_28_code, prog_1_method_29_code, prog_1_method_30_code, prog_1_method_31_code, prog_1_method_32_code, prog_1_method_33_code, prog_1_method_34_code, prog_1_method_35_code, prog_11_method_1_code, prog_11_method_3_code, prog_11_method_4_code, prog_11_method_5_code, prog_11_method_6_code, prog_11_method_7_code, prog_11_method_8_code, prog_11_method_9_code, prog_11_method_10_code, prog_11_method_11_code, prog_11_method_12_code, prog_11_method_13_code, prog_11_method_14_code, prog_11_method_15_code]
def mCdL_3 : List ByteArray := [prog_11_method_16_code, prog_11_method_17_code, prog_11_method_18_code, prog_11_method_19_code, prog_11_method_20_code, prog_11_method_21_code, prog_11_method_22_code, prog_11_method_23_code, prog_11_method_24_code, prog_11_method_25_code, prog_11_method_26_code, prog_11_method_27_code, prog_11_method_28_code, prog_11_method_29_code, prog_11_method_30_code, prog_11_method_31_code, prog_11_method_32_code, prog_11_method_33_code, prog_11_method_34_code, prog_11_method_35_code, prog_11_method_36_code, prog_11_method_37_code, prog_11_method_38_code, prog_11_method_39_code, prog_11_method_40_code, prog_11_method_41_code, prog_11_method_42_code, prog_11_method_43_code, prog_11_method_44_code, prog_11_method_45_code, prog_11_method_46_code, prog_11_method_47_code, prog_11_method_48_code, prog_11_method_49_code, prog_11_method_50_code, prog_11_method_51_code, prog_11_method_52_code, prog_11_method_53_code, prog_11_method_54_code, prog_11_method_55_code]
def mCdL_4 : List ByteArray := [prog_11_method_56_code, prog_11_method_57_code, prog_11_method_58_code, prog_11_method_59_code, prog_11_method_60_code, prog_11_method_61_code, prog_11_method_62_code, prog_11_method_63_code, prog_11_method_64_code, prog_11_method_65_code, prog_11_method_66_code, prog_11_method_67_code, prog_11_method_68_code, prog_11_method_69_code, prog_11_method_70_code, prog_12_method_49_code, prog_13_method_50_code, prog_16_method_103_code, code]
def mCdL : List ByteArray := mCdL_0 ++ mCdL_1 ++ mCdL_2 ++ mCdL_3 ++ mCdL_4
def mCd (y : Nat) : ByteArray := mCdL.getD y ⟨#[]⟩
def mNmL_0 : List MethodName := [⟨"CarryAlike$Loads", "<init>", "(LCarryAlike$Net;LCarryAlike$Town;LCarryAlike$Morning;)V"⟩, ⟨"CarryAlike$Loads", "leastFor", "(I)I"⟩, ⟨"CarryAlike$Loads", "waysFor", "(I)I"⟩, ⟨"CarryAlike$Loads", "tryOthers", "()V"⟩, ⟨"CarryAlike$Loads", "onlyOne", "(I)I"⟩, ⟨"CarryAlike$Loads", "gather", "(I)V"⟩, ⟨"CarryAlike$Loads", "choices", "(I)I"⟩, ⟨"CarryAlike$Loads", "suits", "(II)Z"⟩, ⟨"CarryAlike$Loads", "note", "()V"⟩, ⟨"CarryAlike$Morning", "<init>", "(LCarryAlike$Net;LCarryAlike$Town;)V"⟩, ⟨"CarryAlike$Morning", "begin", "(I)V"⟩, ⟨"CarryAlike$Morning", "isOver", "()Z"⟩, ⟨"CarryAlike$Morning", "goAll", "()I"⟩, ⟨"CarryAlike$Morning", "goOn", "()I"⟩, ⟨"CarryAlike$Morning", "wander", "()I"⟩, ⟨"CarryAlike$Morning", "draw", "(I)I"⟩, ⟨"CarryAlike$Morning", "meet", "()I"⟩, ⟨"CarryAlike$Morning", "goBack", "(II)Z"⟩, ⟨"CarryAlike$Morning", "settle", "()V"⟩, ⟨"CarryAlike$Morning", "keep", "()V"⟩, ⟨"CarryAlike$Morning", "atGoals", "()I"⟩, ⟨"CarryAlike$Net", "<init>", "()V"⟩, ⟨"CarryAlike$Net", "become", "(LCarryAlike$NetReader;)V"⟩, ⟨"CarryAlike$Net", "listSteps", "()V"⟩, ⟨"CarryAlike$Net", "joins", "(II)Z"⟩, ⟨"CarryAlike$Net", "isNarrow", "(III)Z"⟩, ⟨"CarryAlike$Net", "stepsFrom", "(I)I"⟩, ⟨"CarryAlike$Net", "step", "(II)I"⟩, ⟨"CarryAlike$Net", "drawn", "(II)I"⟩, ⟨"CarryAlike$Net", "wideOnes", "()I"⟩, ⟨"CarryAlike$Net", "letsPass", "(LCarryAlike$Walker;ILCarryAlike$Walker;I)Z"⟩, ⟨"CarryAlike$NetReader", "<init>", "()V"⟩, ⟨"CarryAlike$NetReader", "readFrom", "(LCarryAlike$Page;)I"⟩, ⟨"CarryAlike$NetReader", "isWhole", "()Z"⟩, ⟨"CarryAlike$NetReader", "accepts", "(C)Z"⟩, ⟨"CarryAlike$NetReader", "acceptsFirst", "(C)Z"⟩, ⟨"CarryAlike$NetReader", "acceptsSecond", "(C)Z"⟩, ⟨"CarryAlike$NetReader", "acceptsWide", "()Z"⟩, ⟨"CarryAlike$NetReader", "acceptsMark", "(C)Z"⟩, ⟨"CarryAlike$NetReader", "acceptsDoubles", "()Z"⟩]
def mNmL_1 : List MethodName := [⟨"CarryAlike$NetReader", "acceptsEmpties", "()Z"⟩, ⟨"CarryAlike$Page", "<init>", "()V"⟩, ⟨"CarryAlike$Page", "told", "(J)I"⟩, ⟨"CarryAlike$Page", "append", "(JI)V"⟩, ⟨"CarryAlike$Page", "at", "(I)C"⟩, ⟨"CarryAlike$Page", "digitsOfWay", "()I"⟩, ⟨"CarryAlike$Page", "isDigit", "(C)Z"⟩, ⟨"CarryAlike$Planner", "<init>", "(LCarryAlike$Net;LCarryAlike$Town;)V"⟩, ⟨"CarryAlike$Planner", "begin", "()V"⟩, ⟨"CarryAlike$Planner", "fewest", "(II)I"⟩, ⟨"CarryAlike$Planner", "spread", "(I)V"⟩, ⟨"CarryAlike$Planner", "reach", "(II)V"⟩, ⟨"CarryAlike$Planner", "stepsOf", "(II)I"⟩, ⟨"CarryAlike$Planner", "clash", "(IIII)Z"⟩, ⟨"CarryAlike$Planner", "cornerIn", "(II)I"⟩, ⟨"CarryAlike$Planner", "firstStep", "(II)I"⟩, ⟨"CarryAlike$Planner", "canGo", "(II)Z"⟩, ⟨"CarryAlike$Planner", "widen", "()V"⟩, ⟨"CarryAlike$Town", "<init>", "()V"⟩, ⟨"CarryAlike$Town", "at", "(I)LCarryAlike$Walker;"⟩, ⟨"CarryAlike$Town", "mayPass", "(LCarryAlike$Net;II)Z"⟩, ⟨"CarryAlike$Town", "add", "(IIII)Z"⟩, ⟨"CarryAlike$Town", "empty", "()V"⟩, ⟨"CarryAlike$Town", "become", "(LCarryAlike$Town;)V"⟩, ⟨"CarryAlike$Town", "atGoals", "()I"⟩, ⟨"CarryAlike$Walker", "<init>", "()V"⟩, ⟨"CarryAlike$Walker", "isA", "(I)Z"⟩, ⟨"CarryAlike$Walker", "carriesWith", "(I)I"⟩, ⟨"CarryAlike$Walker", "cornerBehind", "(I)I"⟩, ⟨"CarryAlike$Walker", "readWay", "(LCarryAlike$Page;)V"⟩, ⟨"CarryAlike$Walker", "become", "(LCarryAlike$Walker;)V"⟩, ⟨"CarryAlike", "<init>", "()V"⟩, ⟨"CarryAlike", "letters", "(J)I"⟩, ⟨"CarryAlike", "blank", "()I"⟩, ⟨"CarryAlike", "fault", "(I)I"⟩, ⟨"CarryAlike", "net", "()I"⟩, ⟨"CarryAlike", "lane", "(II)I"⟩, ⟨"CarryAlike", "walker", "(IIII)I"⟩, ⟨"CarryAlike", "about", "(II)I"⟩, ⟨"CarryAlike", "as", "(II)I"⟩]
def mNmL_2 : List MethodName := [⟨"CarryAlike", "way", "(I)I"⟩, ⟨"CarryAlike", "load", "(II)I"⟩, ⟨"CarryAlike", "pass", "(II)I"⟩, ⟨"CarryAlike", "heap", "(II)I"⟩, ⟨"CarryAlike", "take", "(II)I"⟩, ⟨"CarryAlike", "minutes", "(I)I"⟩, ⟨"CarryAlike", "first", "(I)I"⟩, ⟨"CarryAlike", "soonest", "(I)I"⟩, ⟨"CarryAlike", "wider", "(I)I"⟩, ⟨"CarryAlike", "enough", "(I)I"⟩, ⟨"CarryAlike", "fits", "(I)I"⟩, ⟨"CarryAlike", "sure", "(II)I"⟩, ⟨"CarryAlike", "crowd", "(III)I"⟩, ⟨"CarryAlike", "image", "()I"⟩, ⟨"CarryAlike", "restore", "()I"⟩, ⟨"CarryAlike", "count", "(I)I"⟩, ⟨"CarryAlike", "digest", "()J"⟩, ⟨"CarryAlike", "withWalker", "(JI)J"⟩, ⟨"CarryAlike", "leadsOn", "(I)Z"⟩, ⟨"CarryAlike", "mayPlan", "()Z"⟩, ⟨"CarryAlike", "isSet", "(I)Z"⟩, ⟨"CarryAlike", "isCorner", "(I)Z"⟩, ⟨"CarryAlike", "isKind", "(I)Z"⟩, ⟨"CarryAlike", "isLoad", "(I)Z"⟩, ⟨"CarryAlike", "isHeap", "(I)Z"⟩, ⟨"CarryAlike", "areMinutes", "(I)Z"⟩, ⟨"CarryAlikeModel", "<init>", "()V"⟩, ⟨"CarryAlikeModel", "within", "(III)Z"⟩, ⟨"CarryAlikeModel", "has", "(II)Z"⟩, ⟨"CarryAlikeModel", "letters", "(J)I"⟩, ⟨"CarryAlikeModel", "blank", "()I"⟩, ⟨"CarryAlikeModel", "isThere", "(II)Z"⟩, ⟨"CarryAlikeModel", "isCorner", "(I)Z"⟩, ⟨"CarryAlikeModel", "nextState", "(II)I"⟩, ⟨"CarryAlikeModel", "readNet", "()V"⟩, ⟨"CarryAlikeModel", "readWay", "()V"⟩, ⟨"CarryAlikeModel", "fault", "(I)I"⟩, ⟨"CarryAlikeModel", "net", "()I"⟩, ⟨"CarryAlikeModel", "laneNow", "(II)I"⟩, ⟨"CarryAlikeModel", "lane", "(II)I"⟩]
def mNmL_3 : List MethodName := [⟨"CarryAlikeModel", "laneOf", "(II)I"⟩, ⟨"CarryAlikeModel", "isWalker", "(I)Z"⟩, ⟨"CarryAlikeModel", "walker", "(IIII)I"⟩, ⟨"CarryAlikeModel", "carries", "(I)I"⟩, ⟨"CarryAlikeModel", "wanted", "(I)I"⟩, ⟨"CarryAlikeModel", "walkerNow", "(II)I"⟩, ⟨"CarryAlikeModel", "about", "(II)I"⟩, ⟨"CarryAlikeModel", "as", "(II)I"⟩, ⟨"CarryAlikeModel", "way", "(I)I"⟩, ⟨"CarryAlikeModel", "load", "(II)I"⟩, ⟨"CarryAlikeModel", "mayPass", "(II)Z"⟩, ⟨"CarryAlikeModel", "pass", "(II)I"⟩, ⟨"CarryAlikeModel", "heap", "(II)I"⟩, ⟨"CarryAlikeModel", "take", "(II)I"⟩, ⟨"CarryAlikeModel", "cannot", "(II)Z"⟩, ⟨"CarryAlikeModel", "layBack", "()I"⟩, ⟨"CarryAlikeModel", "goMinute", "()I"⟩, ⟨"CarryAlikeModel", "minutes", "(I)I"⟩, ⟨"CarryAlikeModel", "save", "()V"⟩, ⟨"CarryAlikeModel", "back", "()V"⟩, ⟨"CarryAlikeModel", "isAnyLeft", "()Z"⟩, ⟨"CarryAlikeModel", "firstOf", "(I)I"⟩, ⟨"CarryAlikeModel", "firstNow", "(I)I"⟩, ⟨"CarryAlikeModel", "first", "(I)I"⟩, ⟨"CarryAlikeModel", "layNear", "()V"⟩, ⟨"CarryAlikeModel", "mayGo", "(II)Z"⟩, ⟨"CarryAlikeModel", "codeOf", "(Z)I"⟩, ⟨"CarryAlikeModel", "soonestOf", "()I"⟩, ⟨"CarryAlikeModel", "stepOf", "(I)I"⟩, ⟨"CarryAlikeModel", "soonestNow", "(I)I"⟩, ⟨"CarryAlikeModel", "soonest", "(I)I"⟩, ⟨"CarryAlikeModel", "widerNow", "(I)I"⟩, ⟨"CarryAlikeModel", "wider", "(I)I"⟩, ⟨"CarryAlikeModel", "enoughNow", "(I)I"⟩, ⟨"CarryAlikeModel", "enough", "(I)I"⟩, ⟨"CarryAlikeModel", "size", "(I)I"⟩, ⟨"CarryAlikeModel", "fitsNow", "(II)I"⟩, ⟨"CarryAlikeModel", "isSet", "(I)Z"⟩, ⟨"CarryAlikeModel", "fits", "(I)I"⟩, ⟨"CarryAlikeModel", "sureNow", "(II)I"⟩]
def mNmL_4 : List MethodName := [⟨"CarryAlikeModel", "sure", "(II)I"⟩, ⟨"CarryAlikeModel", "draw", "(I)I"⟩, ⟨"CarryAlikeModel", "joined", "(II)I"⟩, ⟨"CarryAlikeModel", "degree", "(I)I"⟩, ⟨"CarryAlikeModel", "atGoal", "()I"⟩, ⟨"CarryAlikeModel", "crowdNow", "(III)I"⟩, ⟨"CarryAlikeModel", "crowd", "(III)I"⟩, ⟨"CarryAlikeModel", "image", "()I"⟩, ⟨"CarryAlikeModel", "restore", "()I"⟩, ⟨"CarryAlikeModel", "wideMany", "()I"⟩, ⟨"CarryAlikeModel", "howMany", "(I)I"⟩, ⟨"CarryAlikeModel", "count", "(I)I"⟩, ⟨"CarryAlikeModel", "mix", "(J)V"⟩, ⟨"CarryAlikeModel", "mixWalker", "(I)V"⟩, ⟨"CarryAlikeModel", "digest", "()J"⟩, ⟨"java/lang/Integer", "bitCount", "(I)I"⟩, ⟨"java/lang/Long", "bitCount", "(J)I"⟩, ⟨"java/util/Arrays", "fill", "([II)V"⟩, ⟨"CarryAlikeLaw", "law", "([I)Z"⟩]
def mNmL : List MethodName := mNmL_0 ++ mNmL_1 ++ mNmL_2 ++ mNmL_3 ++ mNmL_4
def mNm (y : Nat) : MethodName := mNmL.getD y ⟨"", "", ""⟩
def mInL_0 : List (Nat × Nat × Nat × Nat × Nat) := [(0, 3, 4, 1, 20), (0, 1, 3, 4, 96), (0, 1, 3, 4, 97), (0, 0, 3, 3, 75), (0, 1, 2, 0, 0), (0, 1, 4, 1, 21), (0, 1, 2, 0, 0), (0, 2, 9, 2, 47), (0, 0, 3, 1, 21), (1, 2, 3, 1, 20), (1, 1, 5, 3, 72), (1, 0, 3, 1, 21), (1, 0, 3, 3, 71), (1, 0, 4, 2, 48), (1, 0, 2, 3, 65), (1, 1, 2, 0, 0), (1, 0, 5, 1, 24), (1, 2, 3, 0, 0), (1, 0, 2, 0, 0), (1, 0, 3, 1, 21), (1, 0, 4, 1, 21), (2, 0, 1, 1, 23), (2, 1, 3, 3, 64), (2, 0, 3, 2, 42), (2, 2, 3, 1, 20), (2, 3, 5, 0, 0), (2, 1, 2, 1, 20), (2, 2, 3, 1, 20), (2, 2, 4, 2, 42), (2, 0, 3, 0, 0), (2, 4, 7, 1, 21), (3, 0, 1, 1, 20), (3, 1, 3, 3, 64), (3, 0, 1, 0, 0), (3, 1, 2, 2, 43), (3, 1, 3, 1, 21), (3, 1, 4, 1, 20), (3, 0, 1, 0, 0), (3, 1, 2, 0, 0), (3, 0, 1, 0, 0)]
def mInL_1 : List (Nat × Nat × Nat × Nat × Nat) := [(3, 0, 1, 0, 0), (4, 0, 1, 1, 20), (4, 1, 6, 0, 0), (4, 2, 5, 0, 0), (4, 1, 2, 0, 0), (4, 0, 2, 1, 20), (4, 1, 1, 0, 0), (5, 2, 3, 1, 20), (5, 0, 3, 3, 72), (5, 2, 4, 4, 95), (5, 1, 13, 3, 63), (5, 2, 3, 0, 0), (5, 2, 3, 2, 41), (5, 4, 5, 1, 24), (5, 2, 2, 0, 0), (5, 2, 4, 3, 76), (5, 2, 9, 2, 48), (5, 0, 6, 5, 118), (6, 0, 2, 2, 40), (6, 1, 2, 0, 0), (6, 3, 6, 2, 47), (6, 4, 6, 0, 0), (6, 0, 1, 1, 23), (6, 1, 3, 2, 47), (6, 0, 3, 0, 0), (7, 0, 1, 1, 20), (7, 1, 2, 0, 0), (7, 1, 2, 0, 0), (7, 1, 2, 0, 0), (7, 1, 3, 1, 21), (7, 1, 2, 1, 26), (8, 0, 1, 3, 61), (8, 1, 4, 1, 25), (8, 0, 2, 0, 0), (8, 1, 2, 4, 86), (8, 0, 1, 4, 86), (8, 2, 3, 0, 0), (8, 4, 5, 1, 25), (8, 2, 4, 1, 21), (8, 2, 4, 1, 21)]
def mInL_2 : List (Nat × Nat × Nat × Nat × Nat) := [(8, 1, 3, 3, 66), (8, 2, 5, 1, 21), (8, 2, 3, 3, 72), (8, 2, 4, 1, 20), (8, 2, 6, 1, 21), (8, 1, 4, 4, 96), (8, 1, 3, 4, 96), (8, 1, 3, 5, 118), (8, 1, 2, 6, 143), (8, 1, 2, 5, 118), (8, 1, 2, 5, 119), (8, 2, 3, 5, 119), (8, 3, 6, 4, 96), (8, 0, 1, 3, 69), (8, 0, 1, 3, 69), (8, 1, 2, 1, 22), (8, 0, 5, 6, 144), (8, 2, 7, 5, 118), (8, 1, 5, 2, 42), (8, 0, 1, 0, 0), (8, 1, 2, 1, 20), (8, 1, 1, 0, 0), (8, 1, 1, 0, 0), (8, 1, 1, 0, 0), (8, 1, 1, 0, 0), (8, 1, 1, 0, 0), (9, 0, 1, 1, 20), (9, 3, 3, 0, 0), (9, 2, 2, 0, 0), (9, 1, 7, 0, 0), (9, 0, 2, 0, 0), (9, 2, 5, 0, 0), (9, 1, 1, 1, 22), (9, 2, 4, 2, 42), (9, 0, 5, 3, 65), (9, 0, 2, 2, 42), (9, 1, 2, 4, 89), (9, 0, 2, 4, 89), (9, 2, 3, 0, 0), (9, 2, 3, 1, 22)]
def mInL_3 : List (Nat × Nat × Nat × Nat × Nat) := [(9, 2, 4, 0, 0), (9, 1, 2, 1, 22), (9, 4, 5, 2, 42), (9, 1, 2, 0, 0), (9, 1, 2, 0, 0), (9, 2, 3, 1, 21), (9, 2, 3, 2, 43), (9, 2, 4, 2, 43), (9, 1, 6, 3, 63), (9, 2, 4, 2, 43), (9, 2, 8, 1, 21), (9, 2, 3, 2, 48), (9, 2, 4, 2, 42), (9, 2, 5, 2, 43), (9, 2, 4, 2, 48), (9, 0, 4, 3, 71), (9, 0, 3, 4, 94), (9, 1, 4, 5, 116), (9, 0, 2, 0, 0), (9, 0, 2, 0, 0), (9, 0, 3, 1, 21), (9, 1, 4, 5, 116), (9, 1, 3, 6, 139), (9, 1, 2, 7, 161), (9, 0, 2, 0, 0), (9, 2, 4, 4, 94), (9, 1, 4, 0, 0), (9, 0, 7, 5, 117), (9, 1, 8, 5, 117), (9, 1, 3, 6, 144), (9, 1, 2, 7, 166), (9, 1, 7, 6, 143), (9, 1, 2, 7, 169), (9, 1, 5, 6, 139), (9, 1, 2, 7, 163), (9, 1, 3, 0, 0), (9, 2, 8, 6, 139), (9, 1, 2, 1, 22), (9, 1, 2, 7, 166), (9, 2, 4, 7, 166)]
def mInL_4 : List (Nat × Nat × Nat × Nat × Nat) := [(9, 2, 3, 8, 189), (9, 1, 2, 0, 0), (9, 2, 6, 1, 23), (9, 1, 4, 1, 23), (9, 0, 3, 0, 0), (9, 3, 7, 4, 94), (9, 3, 4, 5, 120), (9, 0, 2, 0, 0), (9, 0, 2, 0, 0), (9, 0, 3, 0, 0), (9, 1, 2, 1, 22), (9, 1, 2, 2, 43), (9, 1, 3, 0, 0), (9, 1, 3, 7, 163), (9, 0, 3, 8, 185), (11, 1, 1, 0, 0), (12, 1, 2, 0, 0), (13, 2, 4, 0, 0), (10, 1, 4, 9, 211)]
def mInL : List (Nat × Nat × Nat × Nat × Nat) := mInL_0 ++ mInL_1 ++ mInL_2 ++ mInL_3 ++ mInL_4
def mIn (y : Nat) : Nat × Nat × Nat × Nat × Nat := mInL.getD y (0, 0, 0, 0, 0)
def mOwn (y : Nat) : Nat := (mIn y).1
def mNp (y : Nat) : Nat := (mIn y).2.1
def mMx (y : Nat) : Nat := (mIn y).2.2.1
def mFr (y : Nat) : Nat := (mIn y).2.2.2.1
def mLo (y : Nat) : Nat := (mIn y).2.2.2.2
def mRm (y y1 : Nat) : Bool := decide (mFr y1 + 1 ≤ mFr y) && decide (8 + (mMx y1 + 11) + mLo y1 ≤ mLo y)
def mRo1 (y : Nat) : Bool := decide (1 ≤ mFr y) && decide (20 ≤ mLo y)
def mRn (y : Nat) : Bool := decide (1 ≤ mFr y) && decide (26 ≤ mLo y)
def mRtL_0 : List (Option FieldType) := [none, some FieldType.int, some FieldType.int, none, some FieldType.int, none, some FieldType.int, some FieldType.boolean, none, none, none, some FieldType.boolean, some FieldType.int, some FieldType.int, some FieldType.int, some FieldType.int, some FieldType.int, some FieldType.boolean, none, none, some FieldType.int, none, none, none, some FieldType.boolean, some FieldType.boolean, some FieldType.int, some FieldType.int, some FieldType.int, some FieldType.int, some FieldType.boolean, none, some FieldType.int, some FieldType.boolean, some FieldType.boolean, some FieldType.boolean, some FieldType.boolean, some FieldType.boolean, some FieldType.boolean, some FieldType.boolean]
def mRtL_1 : List (Option FieldType) := [some FieldType.boolean, none, some FieldType.int, none, some FieldType.char, some FieldType.int, some FieldType.boolean, none, none, some FieldType.int, none, none, some FieldType.int, some FieldType.boolean, some FieldType.int, some FieldType.int, some FieldType.boolean, none, none, some (FieldType.object "CarryAlike$Walker"), some FieldType.boolean, some FieldType.boolean, none, none, some FieldType.int, none, some FieldType.boolean, some FieldType.int, some FieldType.int, none, none, none, some FieldType.int, some FieldType.int, some FieldType.int, some FieldType.int, some FieldType.int, some FieldType.int, some FieldType.int, some FieldType.int]
def mRtL_2 : List (Option FieldType) := [some FieldType.int, some FieldType.int, some FieldType.int, some FieldType.int, some FieldType.int, some FieldType.int, some FieldType.int, some FieldType.int, some FieldType.int, some FieldType.int, some FieldType.int, some FieldType.int, some FieldType.int, some FieldType.int, some FieldType.int, some FieldType.int, some FieldType.long, some FieldType.long, some FieldType.boolean, some FieldType.boolean, some FieldType.boolean, some FieldType.boolean, some FieldType.boolean, some FieldType.boolean, some FieldType.boolean, some FieldType.boolean, none, some FieldType.boolean, some FieldType.boolean, some FieldType.int, some FieldType.int, some FieldType.boolean, some FieldType.boolean, some FieldType.int, none, none, some FieldType.int, some FieldType.int, some FieldType.int, some FieldType.int]
def mRtL_3 : List (Option FieldType) := [some FieldType.int, some FieldType.boolean, some FieldType.int, some FieldType.int, some FieldType.int, some FieldType.int, some FieldType.int, some FieldType.int, some FieldType.int, some FieldType.int, some FieldType.boolean, some FieldType.int, some FieldType.int, some FieldType.int, some FieldType.boolean, some FieldType.int, some FieldType.int, some FieldType.int, none, none, some FieldType.boolean, some FieldType.int, some FieldType.int, some FieldType.int, none, some FieldType.boolean, some FieldType.int, some FieldType.int, some FieldType.int, some FieldType.int, some FieldType.int, some FieldType.int, some FieldType.int, some FieldType.int, some FieldType.int, some FieldType.int, some FieldType.int, some FieldType.boolean, some FieldType.int, some FieldType.int]
def mRtL_4 : List (Option FieldType) := [some FieldType.int, some FieldType.int, some FieldType.int, some FieldType.int, some FieldType.int, some FieldType.int, some FieldType.int, some FieldType.int, some FieldType.int, some FieldType.int, some FieldType.int, some FieldType.int, none, none, some FieldType.long, some FieldType.int, some FieldType.int, none, some FieldType.boolean]
def mRtL : List (Option FieldType) := mRtL_0 ++ mRtL_1 ++ mRtL_2 ++ mRtL_3 ++ mRtL_4
def mRt (y : Nat) : Option FieldType := mRtL.getD y none
def mFlL_0 : List (Bool × Bool) := [(true, false), (false, false), (false, false), (false, false), (false, false), (false, false), (false, false), (false, false), (false, false), (true, false), (false, false), (false, false), (false, false), (false, false), (false, false), (false, false), (false, false), (false, false), (false, false), (false, false), (false, false), (true, false), (false, false), (false, false), (false, false), (false, false), (false, false), (false, false), (false, false), (false, false), (false, false), (true, false), (false, false), (false, false), (false, false), (false, false), (false, false), (false, false), (false, false), (false, false), (false, false), (true, false), (false, true), (false, false), (false, false), (false, false), (false, true), (true, false), (false, false), (false, false), (false, false), (false, false), (false, false), (false, false), (false, true), (false, false), (false, false), (false, false), (true, false), (false, false)]
def mFlL_1 : List (Bool × Bool) := [(false, false), (false, false), (false, false), (false, false), (false, false), (true, false), (false, false), (false, false), (false, false), (false, false), (false, false), (true, false), (false, false), (false, false), (false, false), (false, false), (false, false), (false, false), (false, false), (false, false), (false, false), (false, false), (false, false), (false, false), (false, false), (false, false), (false, false), (false, false), (false, false), (false, false), (false, false), (false, false), (false, false), (false, false), (false, false), (false, false), (false, false), (false, false), (false, false), (false, false), (false, false), (false, true), (false, true), (false, true), (false, true), (false, true), (true, false), (false, true), (false, true), (false, false), (false, false), (false, false), (false, true), (false, false), (false, false), (false, false), (false, false), (false, false), (false, false), (false, false)]
def mFlL_2 : List (Bool × Bool) := [(false, false), (false, false), (false, false), (false, false), (false, false), (false, false), (false, false), (false, false), (false, false), (false, false), (false, false), (false, false), (false, false), (false, false), (false, false), (false, false), (false, false), (false, false), (false, false), (false, false), (false, false), (false, false), (false, false), (false, false), (false, false), (false, false), (false, false), (false, false), (false, false), (false, false), (false, false), (false, false), (false, false), (false, false), (false, false), (false, true), (false, false), (false, false), (false, false), (false, false), (false, false), (false, false), (false, false), (false, false), (false, false), (false, false), (false, false), (false, false), (false, false), (false, false), (false, false), (false, false), (false, false), (false, false), (false, false), (false, true), (false, true), (false, true), (false, true)]
def mFlL : List (Bool × Bool) := mFlL_0 ++ mFlL_1 ++ mFlL_2
def mIni (y : Nat) : Bool := (mFlL.getD y (false, false)).1
def mSta (y : Nat) : Bool := (mFlL.getD y (false, false)).2
def mMskL_0 : List (List (Nat × List Bool)) := [[], [(28, [true, false, true])], [(30, [true, false, true]), (52, [true, false, true])], [(2, [true, true, false]), (25, [true, true, true]), (47, [true, true, true]), (53, [true, true, false])], [(40, [false, false]), (41, [false, false])], [(17, [true, false, true, false]), (40, [true, false, true, false]), (44, [true, false, true, true]), (48, [true, false, true, false]), (104, [true, false, true, false])], [(14, [false, false])], [(17, [false, false, false, false, false, false, false, false, false]), (41, [false, false, false, false, false, false, false, false, false]), (43, [true, false, true, true, true, false, false, false, false]), (64, [true, false, true, true, true, true, true, false, false]), (108, [true, false, true, true, true, true, true, true, false]), (120, [true, false, true, true, true, true, true, true, false]), (144, [true, false, true, true, true, true, true, false, false])], [(12, [true, true, false]), (80, [false, false, false])], [], [(2, [true, true, true, false, false]), (25, [true, true, true, true, false]), (29, [true, true, true, true, false]), (33, [true, true, true, true, false]), (43, [true, true, true, false, false]), (47, [true, true, true, true, false]), (51, [true, true, true, false, false]), (71, [true, true, true, false, false]), (82, [true, true, true, false, true]), (118, [true, true, true, false, true])], [(2, [true, true, false]), (20, [true, true, true]), (35, [true, true, false])], [(4, [true, true, true]), (30, [false, true, false])], [(2, [true, true, false, false]), (20, [true, true, false, false]), (24, [true, true, true, false]), (34, [true, true, false, false]), (55, [true, true, false, false]), (69, [true, true, true, false]), (87, [true, true, true, true]), (119, [true, true, true, false])], [(2, [true, true]), (30, [true, true]), (66, [true, true])], [(41, [false, false])], [(14, [true, true, true, false, false]), (34, [true, true, true, false, false]), (43, [true, true, true, true, false]), (82, [true, true, true, true, false]), (83, [true, true, true, true, false]), (125, [true, true, true, true, false])], [(72, [false, false, false])], [(2, [true, true]), (28, [true, true])], [(2, [true, true, false]), (20, [true, true, true]), (40, [true, true, false])]]
def mMskL_1 : List (List (Nat × List Bool)) := [[(4, [true, true, true, false]), (22, [true, true, true, true]), (41, [true, true, true, false])], [], [(34, [true, true, true]), (134, [true, false, false])], [(2, [true, true, false]), (17, [true, true, true]), (37, [true, true, true]), (64, [true, true, true])], [(33, [false, false, false]), (34, [false, false, false])], [(26, [false, false, false, false, false]), (73, [false, false, false, false, false]), (74, [false, false, false, false, false])], [(17, [false, false])], [(35, [false, true, false]), (36, [false, false, false])], [(30, [false, false, false, false])], [(4, [true, true, true]), (33, [true, false, true]), (41, [false, true, false])], [(49, [false, false, false, false, false, false, false]), (51, [true, true, false, true, false, true, true]), (68, [false, false, false, false, false, false, false]), (70, [false, true, false, true, false, true, true]), (83, [false, false, false, true, false, true, false]), (96, [false, false, false, false, false, false, false]), (100, [false, false, false, false, false, false, false]), (101, [false, false, false, false, false, false, false])], [], [(27, [true, true, true]), (53, [false, false, true])], [(33, [false]), (38, [false])], [(74, [false, false]), (111, [false, false]), (112, [false, false]), (130, [false, false]), (131, [false, false])], [(16, [false, false, false])], [(16, [false, false, false, false]), (56, [false, false, false, false])], [], [(22, [true, true])], []]
def mMskL_2 : List (List (Nat × List Bool)) := [[], [], [(7, [true, false, true, true, true, false]), (44, [false, false, false, false, false, false]), (46, [true, false, true, true, true, true]), (59, [true, false, true, true, true, false])], [(3, [true, true, false, true, true]), (56, [false, false, false, false, false])], [(21, [false, false]), (22, [false, false])], [(2, [true, true]), (34, [false, true])], [(16, [false]), (17, [false])], [], [(12, [true, true, false]), (38, [true, true, true]), (42, [true, true, true]), (46, [true, true, true]), (62, [true, true, false]), (66, [true, true, true]), (70, [true, true, false])], [(40, [true, false, true, true]), (92, [true, false, false, false])], [(38, [true, true, true, true, true, true, true, false, false, false, false, false, false]), (65, [true, true, true, true, true, true, true, true, true, false, false, false, false]), (105, [true, true, true, true, true, true, true, true, true, true, false, false, false]), (108, [true, true, true, true, true, true, true, true, true, true, true, false, false]), (176, [true, true, true, true, true, true, true, true, true, true, true, true, true]), (197, [true, true, true, true, true, true, true, true, true, true, true, false, true]), (211, [true, true, true, true, true, true, true, true, true, true, true, false, false]), (217, [true, true, true, true, true, true, true, true, true, false, false, false, false])], [(37, [false, false, false])], [(23, [false, false, false])], [(31, [false, false, false, false, false]), (32, [false, false, false, false, false])], [], [(2, [true, true, true, true]), (39, [true, true, true, true])], [(2, [true, true, true, true, false, false, false, false, false]), (44, [true, true, true, true, false, false, false, false, false]), (112, [true, false, false, true, true, true, true, true, true]), (133, [true, false, false, false, false, true, true, true, true]), (155, [false, false, false, false, false, false, false, false, false]), (159, [false, false, false, false, false, false, false, false, false]), (160, [false, false, false, false, false, false, false, false, false])], [(44, [true, false, true, false, false, false]), (48, [true, false, true, true, true, false]), (91, [true, false, true, true, true, false]), (114, [true, false, true, true, true, false]), (120, [false, false, false, false, false, false])], [(32, [true, true])], [(26, [false, false]), (27, [false, false])]]
def mMskL_3 : List (List (Nat × List Bool)) := [[(19, [false, true, false, false, true, true]), (24, [false, true, false, false, true, true]), (45, [false, false, false, false, false, false]), (50, [false, false, false, false, false, false])], [], [], [(33, [true, true, true]), (67, [false, false, false])], [(4, [true, true, true]), (44, [true, false, true]), (52, [false, true, false])], [], [(25, [false, false]), (29, [false, false]), (30, [false, false])], [(16, [false, false])], [(27, [false, false]), (28, [false, false])], [(20, [true, true, true])], [], [], [], [], [(12, [true, true]), (37, [false, false])], [(31, [false])], [(15, [false, false, false]), (81, [false, false, false])], [(14, [false, false, false, false, false]), (32, [false, false, false, false, false]), (74, [false, false, false, false, false])], [(13, [false, false, false, false]), (16, [false, false, true, true])], [(13, [false, false, false, false]), (16, [false, true, true, true]), (39, [false, false, false, false])]]
def mMskL_4 : List (List (Nat × List Bool)) := [[(13, [false, false, false]), (16, [true, false, true]), (54, [false, false, false])], [(13, [false, false, false, false, false]), (16, [false, false, true, true, false])], [(11, [true, true, true]), (22, [true, true, true]), (27, [false, false, false]), (51, [false, false, false])], [], [(13, [false, false, false, false, false, false]), (16, [true, false, true, true, false, false]), (28, [false, false, false, false, false, false]), (79, [false, false, false, false, false, false])], [(32, [true, true, true, true])], [(9, [false, false, false]), (22, [true, true, true]), (78, [false, false, false]), (85, [false, false, false])], [(9, [false, false, false]), (71, [false, false, false]), (86, [false, false, false])], [(12, [true, true]), (67, [false, false])], [(11, [false, false]), (16, [true, true]), (24, [false, false])], [(21, [false, false])], [(11, [false, false, false]), (14, [true, true, true]), (44, [false, false, false])], [(20, [false, false, false, false, false, false]), (56, [true, true, false, true, true, true]), (112, [false, false, false, false, false, false])], [], [], [(129, [false, false]), (145, [false, false])], [(6, [true, true, false, true, false]), (20, [true, true, false, true, true]), (55, [true, true, false, true, false]), (81, [true, true, false, true, false]), (117, [true, true, false, false, false]), (119, [true, true, false, true, false]), (175, [true, true, false, true, false]), (210, [true, true, false, true, false])], [(6, [true, false, false, true, true, false, true]), (39, [true, false, false, true, true, false, true]), (74, [true, false, false, true, true, false, true])], [(4, [true, false, true, true, false]), (49, [true, false, false, true, true])], [(35, [false]), (36, [false])]]
def mMskL_5 : List (List (Nat × List Bool)) := [[(29, [false, false]), (30, [false, false])], [(14, [false]), (15, [false])], [(13, [false]), (14, [false])], [(14, [false]), (15, [false])], [(14, [false]), (15, [false])], [(15, [false]), (16, [false])], [], [(14, [false, false, false]), (15, [false, false, false])], [(14, [false, false])], [(8, [true, true, false, true, true, true, false]), (46, [false, false, false, false, false, false, false]), (49, [true, true, false, true, true, true, true]), (59, [true, true, false, true, false, true, true]), (64, [true, true, false, true, false, true, true]), (77, [true, true, false, false, true, true, false]), (102, [true, true, false, true, false, true, false])], [], [(5, [true, true, true, true, true]), (40, [true, true, true, false, true]), (62, [true, true, true, false, true]), (66, [true, true, true, false, true]), (67, [true, true, true, false, true])], [], [(31, [false, false, false, false]), (74, [false, false, false, false]), (133, [true, true, true, false]), (143, [true, false, true, false]), (162, [false, false, true, false]), (173, [false, false, false, false]), (192, [true, true, true, false]), (212, [false, false, false, false])], [(21, [true, true, true, true, false]), (57, [true, true, true, false, true]), (68, [true, false, true, true, false]), (79, [true, true, false, true, false]), (84, [true, true, true, false, false]), (112, [false, false, false, false, false]), (113, [false, false, false, false, false])], [(2, [true, true]), (37, [true, true]), (59, [false, false]), (60, [false, false])], [(27, [true, false])], [(24, [true, true]), (112, [true, true])], [(41, [false, false, false])], [(37, [false, false, false])]]
def mMskL_6 : List (List (Nat × List Bool)) := [[(2, [true, true, true, true]), (30, [true, true, true, true]), (50, [false, false, false, true]), (52, [true, true, true, true])], [], [(14, [false, false, false, false, false]), (37, [false, false, false, false, false])], [(28, [false, false])], [(35, [false, false])], [], [(34, [false, false, false])], [(49, [false, true, false, false]), (53, [false, false, false, false]), (54, [false, false, false, false])], [(30, [true, true, true, true, true, false]), (72, [true, true, false, false, true, true]), (77, [true, true, false, false, true, true]), (87, [true, true, true, false, false, false]), (97, [true, true, false, false, true, false])], [], [(36, [true, true, true, true, true, false, false, false]), (40, [true, true, true, true, true, false, false, false]), (41, [true, true, true, true, true, false, false, false]), (59, [true, true, true, true, true, true, false, false]), (63, [true, true, true, true, true, true, false, false]), (64, [true, true, true, true, true, true, false, false]), (81, [true, false, true, true, true, true, true, false]), (95, [false, false, false, true, true, true, true, false]), (99, [false, false, false, true, true, true, true, false]), (100, [false, false, false, true, true, true, true, false]), (123, [false, false, false, false, false, false, false, false]), (128, [false, false, false, false, false, false, false, false])], [(21, [false, false, false]), (38, [false, false, false])], [], [(45, [true, true, true, false, false]), (50, [true, true, true, false, false]), (98, [false, false, false, false, false])], [(49, [true, true, true, false]), (50, [true, true, true, false]), (92, [false, false, false, false]), (93, [false, false, false, false])], [(9, [true, true, true, false]), (21, [true, true, true, true]), (51, [true, true, true, true]), (67, [true, true, true, true]), (89, [true, true, true, true])], [(2, [true, true, false]), (38, [true, true, false]), (52, [true, true, true]), (92, [true, true, true]), (106, [true, true, true])], [(27, [true, true, true, true])], [(2, [true, true])], [(2, [true, true])]]
def mMskL_7 : List (List (Nat × List Bool)) := [[(4, [true, true, true]), (25, [true, false, true]), (30, [true, false, true])], [(8, [true, true, true, true]), (45, [true, true, false, true]), (52, [true, false, true, false])], [(16, [false, false, true]), (36, [false, false, false])], [(19, [false, false])], [(2, [true, true]), (25, [true, true])], [(2, [true, true, true, true]), (47, [true, true, true, true]), (101, [false, false, false, false])], [(9, [true, true, true, true]), (36, [true, true, false, true])], [(32, [true, true, true, true, true, false, false]), (72, [true, true, false, true, true, true, false]), (109, [true, true, false, true, true, true, true]), (175, [true, true, false, true, true, true, true]), (187, [true, true, false, false, false, false, false])], [(29, [true, true, true, true, true, true, true, false]), (103, [true, true, true, true, true, true, true, false])], [(14, [false, false, true]), (28, [false, false, false])], [(33, [false, false])], [(16, [true, true, false, false, false, false, false]), (23, [true, true, false, true, true, true, false]), (81, [true, true, false, true, true, true, true]), (83, [true, true, false, true, false, true, true]), (102, [true, true, false, true, true, true, false]), (103, [true, true, false, false, true, true, false]), (104, [true, true, false, true, true, true, false]), (120, [false, false, false, false, true, false, false]), (126, [false, false, false, false, false, false, false])], [(33, [false, false])], [(12, [true, true, true, true, true]), (49, [true, true, true, false, true]), (56, [true, true, true, true, false])], [(18, [false, false])], [(4, [true, true, true])], [(5, [true, true, true, true, true, false, false, false]), (41, [true, true, true, false, true, false, false, false]), (60, [true, true, true, true, true, true, false, false]), (73, [true, true, true, true, true, true, true, true]), (112, [true, true, true, true, true, true, true, true]), (132, [true, true, true, true, true, true, false, true]), (170, [true, true, true, true, true, true, false, false]), (179, [true, false, false, false, true, true, false, false])], [(28, [false, false]), (29, [false, false])], [(19, [false, false])], [(9, [true, true, true, true]), (35, [true, true, true, true])]]
def mMskL_8 : List (List (Nat × List Bool)) := [[(30, [false, false, false])], [], [(8, [true, true, false, true, true, true]), (36, [true, true, false, false, true, true]), (49, [true, true, false, true, true, false]), (57, [false, false, false, false, false, true])], [(4, [true, true, true, true]), (26, [true, true, false, true])], [(4, [true, true, true]), (35, [true, false, true])], [(16, [true, true, false, true, true, true, false]), (25, [true, true, false, true, true, true, true]), (87, [true, true, false, true, true, true, true]), (131, [true, true, false, true, true, true, true]), (178, [false, false, false, false, false, false, false])], [(23, [false, false, false, false]), (45, [false, false, false, false])], [(41, [true, true]), (102, [true, true]), (128, [true, true])], [(18, [false, false]), (39, [true, true]), (100, [true, true]), (126, [true, true])], [(4, [true, true, true]), (27, [true, false, true])], [(111, [false, false]), (124, [false, false])], [], [], [(2, [true, true, true]), (27, [true, true, true]), (55, [true, true, true]), (58, [true, true, true])], [(9, [true, true, false]), (19, [true, true, true]), (49, [true, true, false]), (70, [true, true, false]), (100, [true, false, false]), (102, [true, true, false]), (139, [true, false, false]), (157, [true, false, true]), (184, [true, false, true])], [], [], [(5, [true, true, true, true])], [(18, [true, true, true, true]), (834, [true, true, true, true])]]
def mMskL : List (List (Nat × List Bool)) := mMskL_0 ++ mMskL_1 ++ mMskL_2 ++ mMskL_3 ++ mMskL_4 ++ mMskL_5 ++ mMskL_6 ++ mMskL_7 ++ mMskL_8
def mMsk (y : Nat) : List (Nat × List Bool) := mMskL.getD y []
def mFt (o : Nat) : List (Nat × Nat × Nat) := ([[(9, 0, 3), (15, 0, 4), (18, 0, 5), (22, 0, 6), (25, 0, 7), (28, 0, 8), (31, 0, 9), (34, 0, 0), (38, 0, 1), (42, 0, 2), (79, 7, 3), (84, 1, 7)], [(9, 1, 2), (15, 1, 3), (18, 1, 4), (21, 1, 5), (25, 1, 6), (28, 1, 7), (31, 1, 8), (35, 1, 9), (38, 1, 10), (42, 1, 0), (46, 1, 1), (56, 7, 1), (60, 7, 6), (67, 7, 5), (116, 7, 2)], [(9, 2, 0), (15, 2, 1), (18, 2, 2), (22, 2, 3), (26, 2, 4), (30, 2, 5), (33, 2, 6), (36, 2, 7), (39, 2, 8), (48, 3, 3), (51, 3, 4), (52, 3, 5), (53, 3, 0), (54, 3, 1), (55, 3, 2)], [(9, 3, 0), (15, 3, 1), (18, 3, 2), (22, 3, 3), (26, 3, 4), (30, 3, 5), (33, 3, 6), (36, 3, 7), (40, 4, 1)], [(9, 4, 0), (15, 4, 1)], [(11, 5, 2), (15, 5, 3), (18, 5, 4), (22, 5, 5), (25, 5, 6), (28, 5, 7), (32, 5, 8), (35, 5, 9), (38, 5, 10), (41, 5, 11), (44, 5, 12), (47, 5, 0), (51, 5, 1), (61, 7, 1), (66, 7, 2), (103, 6, 1), (124, 2, 3), (127, 2, 2)], [(11, 6, 0), (17, 6, 1), (21, 6, 2), (25, 6, 3), (33, 7, 3), (42, 7, 0), (45, 7, 1), (48, 7, 2), (51, 7, 5), (54, 7, 6)], [(9, 7, 0), (15, 7, 1), (18, 7, 2), (21, 7, 3), (24, 7, 4), (28, 7, 5), (31, 7, 6), (34, 4, 1)], [(12, 8, 0), (19, 8, 1), (26, 8, 2), (33, 8, 3), (37, 8, 4), (45, 8, 5), (54, 8, 6), (61, 8, 7), (65, 8, 8), (69, 8, 9), (72, 8, 10), (76, 8, 11), (83, 4, 1), (109, 2, 3), (112, 2, 0), (116, 2, 1), (119, 2, 2), (137, 6, 1), (144, 7, 0), (149, 7, 1), (152, 7, 2), (155, 7, 3), (162, 7, 5), (165, 7, 6), (188, 6, 2), (204, 6, 3), (210, 1, 8), (213, 1, 9), (231, 5, 11), (234, 5, 12), (249, 1, 10), (266, 2, 4), (269, 2, 5)], [(7, 9, 1), (13, 9, 2), (16, 9, 3), (20, 9, 8), (23, 9, 9), (26, 9, 10), (29, 9, 11), (32, 9, 12), (35, 9, 13), (38, 9, 14), (41, 9, 15), (44, 9, 19), (48, 9, 23), (51, 9, 24), (54, 9, 25), (57, 9, 28), (60, 9, 32), (63, 9, 33), (66, 9, 34), (69, 9, 37), (72, 9, 38), (75, 9, 39), (78, 9, 46), (81, 9, 47), (84, 9, 48), (87, 9, 49), (90, 9, 50), (93, 9, 51), (98, 9, 18), (102, 9, 22), (117, 9, 26), (121, 9, 27), (128, 9, 20), (131, 9, 21), (140, 9, 0), (143, 9, 4), (146, 9, 5), (149, 9, 6), (152, 9, 7), (155, 9, 16), (180, 9, 29), (186, 9, 30), (189, 9, 31), (209, 9, 35), (212, 9, 36), (241, 9, 17), (253, 9, 40), (270, 9, 41), (296, 9, 42), (299, 9, 43), (302, 9, 44), (305, 9, 45), (316, 9, 52)], [], [], [], []] : List (List (Nat × Nat × Nat))).getD o []
def mFq (o : Nat) : List (Nat × Nat × Bool) := ([[(9, 249, false), (15, 250, false), (18, 251, false), (22, 252, false), (25, 253, false), (28, 254, false), (31, 255, false), (34, 246, false), (38, 247, false), (42, 248, false), (79, 153, true), (84, 210, true)], [(9, 204, false), (15, 205, false), (18, 206, false), (21, 207, false), (25, 208, false), (28, 209, false), (31, 211, false), (35, 213, false), (38, 215, false), (42, 202, false), (46, 203, false), (56, 142, true), (60, 161, true), (67, 157, true), (116, 150, true)], [(9, 89, false), (15, 91, false), (18, 93, false), (22, 96, false), (26, 99, false), (30, 101, false), (33, 103, false), (36, 104, false), (39, 105, false), (48, 54, true), (51, 56, true), (52, 58, true), (53, 48, true), (54, 50, true), (55, 52, true)], [(9, 47, false), (15, 49, false), (18, 51, false), (22, 53, false), (26, 55, false), (30, 57, false), (33, 59, false), (36, 60, false), (40, 33, true)], [(9, 30, false), (15, 31, false)], [(11, 285, false), (15, 286, false), (18, 287, false), (22, 288, false), (25, 289, false), (28, 290, false), (32, 291, false), (35, 292, false), (38, 293, false), (41, 294, false), (44, 296, false), (47, 283, false), (51, 284, false), (61, 143, true), (66, 147, true), (103, 181, true), (124, 98, true), (127, 95, true)], [(11, 179, false), (17, 180, false), (21, 183, false), (25, 185, false), (33, 152, true), (42, 139, true), (45, 144, true), (48, 148, true), (51, 158, true), (54, 162, true)], [(9, 138, false), (15, 141, false), (18, 146, false), (21, 151, false), (24, 155, false), (28, 156, false), (31, 160, false), (34, 34, true)], [(12, 325, false), (19, 326, false), (26, 327, false), (33, 328, false), (37, 329, false), (45, 330, false), (54, 331, false), (61, 332, false), (65, 333, false), (69, 334, false), (72, 335, false), (76, 336, false), (83, 32, true), (109, 97, true), (112, 90, true), (116, 92, true), (119, 94, true), (137, 182, true), (144, 140, true), (149, 145, true), (152, 149, true), (155, 154, true), (162, 159, true), (165, 163, true), (188, 184, true), (204, 186, true), (210, 212, true), (213, 214, true), (231, 295, true), (234, 297, true), (249, 216, true), (266, 100, true), (269, 102, true)], [(7, 811, false), (13, 812, false), (16, 813, false), (20, 818, false), (23, 819, false), (26, 820, false), (29, 821, false), (32, 822, false), (35, 823, false), (38, 824, false), (41, 825, false), (44, 829, false), (48, 833, false), (51, 834, false), (54, 835, false), (57, 838, false), (60, 842, false), (63, 843, false), (66, 844, false), (69, 847, false), (72, 848, false), (75, 849, false), (78, 856, false), (81, 857, false), (84, 858, false), (87, 859, false), (90, 860, false), (93, 861, false), (98, 828, false), (102, 832, false), (117, 836, false), (121, 837, false), (128, 830, false), (131, 831, false), (140, 810, false), (143, 814, false), (146, 815, false), (149, 816, false), (152, 817, false), (155, 826, false), (180, 839, false), (186, 840, false), (189, 841, false), (209, 845, false), (212, 846, false), (241, 827, false), (253, 850, false), (270, 851, false), (296, 852, false), (299, 853, false), (302, 854, false), (305, 855, false), (316, 862, false)], [], [], [], []] : List (List (Nat × Nat × Bool))).getD o []
def mMt (o : Nat) : List (Nat × Nat) := ([[(46, 5), (50, 10), (55, 12), (59, 7), (63, 6), (67, 3), (70, 8), (73, 59), (87, 30)], [(50, 59), (63, 60), (70, 11), (74, 13), (78, 68), (82, 16), (85, 18), (88, 26), (93, 15), (96, 28), (108, 25), (112, 17)], [(42, 177), (56, 23), (59, 24), (63, 101), (67, 27), (71, 67), (77, 66)], [(45, 44), (49, 34), (53, 35), (56, 36), (59, 37), (63, 38), (66, 39), (69, 40), (72, 46), (77, 176)], [(21, 46)], [(55, 59), (69, 60), (73, 177), (79, 50), (83, 54), (87, 52), (90, 27), (95, 53), (99, 51), (106, 26), (110, 25), (114, 56), (118, 24), (121, 49)], [(28, 65), (29, 59), (36, 30), (57, 177), (69, 70)], [(45, 44)], [(11, 41), (18, 31), (25, 21), (32, 58), (42, 9), (51, 0), (60, 47), (79, 42), (86, 43), (90, 32), (94, 45), (98, 33), (102, 22), (106, 62), (123, 101), (127, 102), (130, 103), (133, 61), (140, 59), (158, 67), (168, 68), (171, 66), (174, 98), (177, 69), (181, 60), (185, 104), (191, 105), (194, 10), (198, 13), (201, 19), (207, 11), (216, 99), (219, 48), (221, 49), (225, 55), (228, 57), (237, 1), (240, 100), (243, 2), (246, 4), (253, 14), (256, 20), (259, 63), (262, 29), (265, 64), (276, 76), (279, 97), (283, 86), (291, 44), (294, 95), (297, 78), (300, 82), (303, 24), (307, 175)], [(105, 107), (109, 112), (113, 111), (124, 113), (134, 114), (137, 115), (158, 118), (161, 123), (165, 124), (168, 121), (171, 125), (174, 120), (177, 130), (183, 134), (192, 135), (196, 108), (199, 136), (202, 138), (205, 140), (215, 139), (218, 141), (221, 142), (224, 146), (228, 144), (231, 145), (235, 147), (238, 148), (244, 149), (247, 151), (250, 153), (256, 155), (259, 157), (262, 156), (265, 159), (280, 163), (283, 161), (286, 162), (289, 164), (292, 165), (308, 169), (311, 170), (319, 172), (325, 173)], [(9, 71), (12, 106), (15, 72), (19, 109), (20, 73), (24, 110), (25, 74), (29, 116), (30, 75), (33, 117), (34, 76), (38, 119), (39, 77), (43, 122), (44, 78), (47, 126), (48, 79), (51, 127), (52, 80), (55, 128), (56, 81), (59, 129), (60, 82), (63, 131), (64, 83), (67, 132), (68, 84), (71, 133), (72, 85), (75, 137), (76, 86), (79, 143), (80, 87), (83, 150), (84, 88), (87, 152), (88, 89), (91, 154), (92, 90), (95, 158), (96, 91), (99, 160), (100, 92), (104, 166), (105, 93), (108, 167), (109, 94), (112, 168), (113, 95), (116, 171), (117, 96), (121, 174)], [], [], []] : List (List (Nat × Nat))).getD o []
def mMq (o : Nat) : List (Nat × Nat × Bool) := ([[(46, 671, false), (50, 676, false), (55, 677, false), (59, 683, false), (63, 706, false), (67, 710, false), (70, 714, false), (73, 675, false), (87, 687, false)], [(50, 563, false), (63, 564, false), (70, 681, false), (74, 682, false), (78, 569, false), (82, 570, false), (85, 582, false), (88, 738, false), (93, 739, false), (96, 747, false), (108, 574, false), (112, 578, false)], [(42, 86, false), (56, 445, false), (59, 449, false), (63, 453, true), (67, 751, false), (71, 539, false), (77, 540, false)], [(45, 386, false), (49, 390, false), (53, 394, false), (56, 408, false), (59, 412, false), (63, 416, false), (66, 420, false), (69, 424, false), (72, 398, false), (77, 402, false)], [(21, 432, false)], [(55, 610, false), (69, 611, false), (73, 616, false), (79, 617, false), (83, 621, false), (87, 624, false), (90, 632, false), (95, 636, false), (99, 641, false), (106, 628, false), (110, 640, false), (114, 649, false), (118, 653, false), (121, 662, false)], [(28, 134, true), (29, 534, false), (36, 535, false), (57, 460, false), (69, 767, false)], [(45, 521, false)], [(11, 26, true), (18, 43, true), (25, 82, false), (32, 127, false), (42, 198, false), (51, 242, false), (60, 279, false), (79, 366, false), (86, 370, false), (90, 382, false), (94, 428, false), (98, 437, false), (102, 441, false), (106, 456, false), (123, 469, false), (127, 470, false), (130, 473, false), (133, 476, false), (140, 484, false), (158, 488, false), (168, 492, false), (171, 500, false), (174, 508, false), (177, 514, false), (181, 530, false), (185, 545, false), (191, 556, false), (194, 559, false), (198, 565, false), (201, 586, false), (207, 594, false), (216, 602, false), (219, 606, false), (221, 612, false), (225, 645, false), (228, 658, false), (237, 667, false), (240, 692, false), (243, 702, false), (246, 726, false), (253, 734, false), (256, 752, false), (259, 760, false), (262, 780, false), (265, 784, false), (276, 794, false), (279, 795, false), (283, 801, false), (291, 512, false), (294, 803, false), (297, 799, false), (300, 800, false), (303, 513, false), (307, 696, false)], [(105, 984, false), (109, 995, false), (113, 998, false), (124, 991, false), (134, 987, false), (137, 1002, false), (158, 1014, false), (161, 1034, false), (165, 1038, false), (168, 1026, false), (171, 1030, false), (174, 1050, false), (177, 1062, false), (183, 1086, false), (192, 1082, false), (196, 1090, false), (199, 1078, false), (202, 1105, false), (205, 1109, false), (215, 1113, false), (218, 1101, false), (221, 1097, false), (224, 1129, false), (228, 1133, false), (231, 1137, false), (235, 1125, false), (238, 1141, false), (244, 1121, false), (247, 1150, false), (250, 1158, false), (256, 1170, false), (259, 1166, false), (262, 1173, false), (265, 1181, false), (280, 1193, false), (283, 1197, false), (286, 1205, false), (289, 1209, false), (292, 1189, false), (308, 1229, false), (311, 1225, false), (319, 1238, false), (325, 1243, false)], [(9, 18, false), (12, 806, false), (15, 362, false), (19, 971, false), (20, 374, false), (24, 976, false), (25, 378, false), (29, 980, false), (30, 433, false), (33, 1006, false), (34, 461, false), (38, 1010, false), (39, 465, false), (43, 1018, false), (44, 480, false), (47, 1022, false), (48, 496, false), (51, 1042, false), (52, 504, false), (55, 1046, false), (56, 522, false), (59, 1054, false), (60, 526, false), (63, 1058, false), (64, 541, false), (67, 1066, false), (68, 548, false), (71, 1070, false), (72, 552, false), (75, 1074, false), (76, 590, false), (79, 1093, false), (80, 598, false), (83, 1117, false), (84, 654, false), (87, 1146, false), (88, 663, false), (91, 1154, false), (92, 688, false), (95, 1162, false), (96, 722, false), (99, 1177, false), (100, 730, false), (104, 1185, false), (105, 756, false), (108, 1213, false), (109, 772, false), (112, 1217, false), (113, 776, false), (116, 1221, false), (117, 788, false), (121, 1233, false)], [], [], []] : List (List (Nat × Nat × Bool))).getD o []
def mNq (o : Nat) : List (Nat × Nat) := ([[], [], [], [], [], [], [(63, 764)], [(49, 771)], [], [], [], [], [], []] : List (List (Nat × Nat))).getD o []
def mXq (o : Nat) : List (Nat × Nat × Bool) := ([[(93, 718, false), (99, 719, true)], [], [], [], [], [], [], [(39, 518, false)], [(286, 802, false)], [], [], [], [], []] : List (List (Nat × Nat × Bool))).getD o []
def mRx (y : Nat) : Bool := decide (1 ≤ mFr y) && decide (21 ≤ mLo y)
def mOq (o : Nat) : List (Nat × Nat) := ([[(3, 245)], [(3, 201)], [(3, 85)], [(3, 46)], [(3, 29)], [(3, 282)], [(3, 130)], [(3, 137)], [(3, 21)], [(1, 809)], [], [], [], []] : List (List (Nat × Nat))).getD o []
def mOt (o i : Nat) : Bool := (mOq o).any fun q => q.1 == i
def mNt (o i : Nat) : Bool := (mNq o).any fun q => q.1 == i
def mCt (o : Nat) : List (Nat × Nat) := ([[], [], [], [], [], [], [(9, 7)], [], [(9, 4), (16, 3), (23, 2), (30, 6), (40, 1), (49, 0), (58, 5)], [], [(7, 8), (10, 9)], [], [], []] : List (List (Nat × Nat))).getD o []
def mCq (o : Nat) : List (Nat × Nat) := ([[], [], [], [], [], [], [(9, 131)], [], [(9, 24), (16, 41), (23, 80), (30, 125), (40, 196), (49, 240), (58, 277)], [], [(7, 16), (10, 804)], [], [], []] : List (List (Nat × Nat))).getD o []
def mAq (o : Nat) : List (Nat × Nat) := ([[], [], [], [], [], [], [(9, 131)], [], [], [], [], [], [], []] : List (List (Nat × Nat))).getD o []
def mAt (o i : Nat) : Bool := (mAq o).any fun q => q.1 == i
def mKt (o : Nat) : List (Nat × (Int32 ⊕ Int64)) := ([[], [(100, .inr 1103515245), (102, .inr 12345), (104, .inr 2147483647), (106, .inr 65536)], [], [(75, .inr 255)], [(19, .inr 255)], [], [], [], [(272, .inr 617), (274, .inr 31)], [(96, .inr 255), (234, .inl 1048576), (268, .inr 1103515245), (274, .inr 12345), (276, .inr 2147483647), (278, .inr 65536), (314, .inr 31), (323, .inr 617)], [(13, .inr 4294967295)], [(265, .inl 1431655765), (266, .inl 858993459), (267, .inl 252645135)], [(314, .inr 6148914691236517205), (316, .inr 3689348814741910323), (318, .inr 1085102592571150095)], []] : List (List (Nat × (Int32 ⊕ Int64)))).getD o []
def mKq (o : Nat) : List (Nat × Nat) := ([[], [(100, 743), (102, 744), (104, 745), (106, 746)], [], [(75, 401)], [(19, 369)], [], [], [], [(272, 792), (274, 793)], [(96, 975), (234, 1145), (268, 1201), (274, 1202), (276, 1203), (278, 1204), (314, 1242), (323, 1237)], [(13, 1247)], [(265, 699), (266, 700), (267, 701)], [(314, 405), (316, 406), (318, 407)], []] : List (List (Nat × Nat))).getD o []
def mFin (ci k : Nat) : Bool := match vwCl[ci]? with
  | some q => (q.2.1 k).2.2.2
  | none => false
def mPosL_0 : List (Nat × Nat × Nat × Nat) := [(309, 74, 308, 0), (735, 74, 733, 734), (770, 74, 768, 769), (778, 74, 777, 22), (794, 74, 792, 793), (739, 74, 738, 18), (774, 74, 773, 21), (751, 74, 750, 19), (782, 74, 781, 23), (265, 73, 264, 0), (627, 73, 625, 626), (662, 73, 660, 661), (745, 73, 743, 744), (633, 73, 631, 632), (802, 73, 800, 801), (807, 73, 806, 24), (638, 73, 637, 9), (646, 73, 645, 10), (650, 73, 649, 11), (654, 73, 652, 653), (820, 73, 818, 819), (149, 69, 148, 0), (509, 69, 507, 508), (513, 69, 512, 7), (517, 69, 515, 516), (642, 69, 640, 641), (696, 69, 694, 695), (700, 69, 698, 699), (815, 69, 813, 814), (848, 69, 846, 847), (603, 69, 601, 602), (110, 68, 109, 0), (450, 68, 448, 449), (505, 68, 503, 504), (458, 68, 457, 0), (462, 68, 461, 1), (476, 68, 475, 2), (480, 68, 479, 3), (484, 68, 483, 4), (488, 68, 487, 5)]
def mPosL_1 : List (Nat × Nat × Nat × Nat) := [(492, 68, 491, 6), (93, 67, 92, 0), (433, 67, 432, 0), (438, 67, 436, 437), (454, 67, 452, 453), (496, 67, 494, 495), (465, 67, 464, 0), (346, 75, 345, 0), (674, 75, 672, 673), (680, 75, 678, 679), (685, 75, 684, 13), (709, 75, 708, 16), (692, 75, 691, 14), (704, 75, 703, 15), (688, 75, 687, 0), (713, 75, 711, 712), (717, 75, 716, 17), (726, 75, 724, 725), (194, 71, 193, 0), (552, 71, 550, 551), (598, 71, 596, 597), (544, 71, 542, 543), (524, 71, 522, 523), (828, 71, 826, 827), (852, 71, 850, 851), (201, 72, 200, 0), (568, 72, 566, 567), (556, 72, 554, 555), (560, 72, 558, 559), (582, 72, 580, 581), (835, 72, 833, 834), (85, 66, 84, 0), (430, 66, 428, 429), (442, 66, 440, 441), (446, 66, 444, 445), (501, 66, 499, 500), (529, 66, 527, 528), (533, 66, 531, 532), (548, 66, 546, 547), (564, 66, 562, 563)]
def mPosL_2 : List (Nat × Nat × Nat × Nat) := [(572, 66, 570, 571), (590, 66, 588, 589), (594, 66, 592, 593), (609, 66, 607, 608), (616, 66, 614, 615), (620, 66, 618, 619), (658, 66, 656, 657), (666, 66, 664, 665), (722, 66, 720, 721), (731, 66, 729, 730), (756, 66, 754, 755), (790, 66, 788, 789), (798, 66, 796, 797), (824, 66, 822, 823), (840, 66, 838, 839), (844, 66, 842, 843), (856, 66, 854, 855), (863, 66, 862, 25), (576, 66, 575, 8), (670, 66, 669, 12), (760, 66, 759, 20), (520, 66, 519, 0), (537, 66, 536, 0), (540, 66, 539, 0), (612, 66, 611, 0), (623, 66, 622, 0), (873, 76, 872, 0), (1051, 76, 1050, 0), (1157, 76, 1156, 0), (1039, 76, 1037, 1038), (1044, 76, 1042, 1043), (1066, 76, 1065, 28), (1062, 76, 1061, 0), (1059, 76, 1058, 27), (1055, 76, 1054, 26), (1070, 76, 1069, 29), (1048, 76, 1046, 1047), (1074, 76, 1072, 1073), (1082, 76, 1081, 30), (1078, 76, 1076, 1077)]
def mPosL_3 : List (Nat × Nat × Nat × Nat) := [(1118, 76, 1117, 35), (1094, 76, 1093, 31), (1086, 76, 1084, 1085), (1102, 76, 1101, 33), (1106, 76, 1105, 34), (1098, 76, 1097, 32), (1090, 76, 1088, 1089), (1110, 76, 1108, 1109), (1114, 76, 1112, 1113), (1122, 76, 1120, 1121), (1130, 76, 1129, 36), (1126, 76, 1124, 1125), (1134, 76, 1132, 1133), (1138, 76, 1136, 1137), (1154, 76, 1153, 39), (1150, 76, 1149, 38), (1146, 76, 1145, 37), (1142, 76, 1140, 1141), (1173, 76, 1172, 42), (1181, 76, 1180, 44), (1177, 76, 1176, 43), (1169, 76, 1168, 41), (1165, 76, 1164, 40), (1161, 76, 1159, 1160), (1201, 76, 1200, 48), (1205, 76, 1204, 49), (1197, 76, 1196, 47), (1193, 76, 1192, 46), (1209, 76, 1208, 50), (1189, 76, 1188, 45), (1185, 76, 1183, 1184), (1218, 76, 1217, 51), (1214, 76, 1212, 1213), (1226, 76, 1225, 52), (1222, 76, 1220, 1221), (1237, 76, 1236, 0), (1241, 76, 1240, 54), (1234, 76, 1233, 53), (1230, 76, 1228, 1229), (1249, 76, 1248, 55)]
def mPosL_4 : List (Nat × Nat × Nat × Nat) := [(1245, 76, 1243, 1244), (1265, 76, 1264, 58), (1273, 76, 1272, 59), (1261, 76, 1260, 57), (1277, 76, 1276, 60), (1257, 76, 1256, 56), (1253, 76, 1251, 1252), (1281, 76, 1279, 1280), (1285, 76, 1283, 1284), (1297, 76, 1296, 62), (1293, 76, 1292, 61), (1289, 76, 1287, 1288), (1306, 76, 1305, 63), (1311, 76, 1310, 64), (1301, 76, 1299, 1300), (763, 79, 762, 0), (469, 77, 468, 0), (153, 70, 152, 0), (0, 0, 0, 0)]
def mPosL : List (Nat × Nat × Nat × Nat) := mPosL_0 ++ mPosL_1 ++ mPosL_2 ++ mPosL_3 ++ mPosL_4
def mPos (y : Nat) : Nat × Nat × Nat × Nat := mPosL.getD y (0, 0, 0, 0)
def mPriv : Nat := 65
def mCpL : List (Nat × Nat × List Nat) := [(306, 74, [321, 323, 325, 327, 329, 331, 333, 335, 337, 339]), (262, 73, [282, 284, 286, 288, 290, 292, 294, 296, 298, 300, 302]), (146, 69, [171, 173, 175, 177, 179, 181, 183, 185, 187]), (107, 68, [126, 128, 130, 132, 134, 136, 138, 140]), (90, 67, [100, 102]), (343, 75, [363, 365, 367, 369, 371, 373, 375, 377, 379, 381, 383, 385, 387]), (191, 71, [252, 254, 256, 258]), (198, 72, [229, 231, 233, 235, 237, 239, 241]), (82, 66, [402, 404, 406, 408, 410, 412, 414, 416, 418, 420, 422, 424]), (870, 76, [928, 930, 932, 934, 936, 938, 940, 942, 944, 946, 948, 950, 952, 954, 956, 958, 960, 962, 964, 966, 968, 970, 972, 974, 976, 978, 980, 982, 984, 986, 988, 990, 992, 994, 996, 998, 1000, 1002, 1004, 1006, 1008, 1010, 1012, 1014, 1016, 1018, 1020, 1022, 1024, 1026, 1028, 1030, 1032])]
def mArL : List Nat := [143, 144, 105, 1035, 197]
def mAcL : List Nat := [831, 830, 80]
def mObL : List Nat := [88, 87]
def mMaL : List Nat := [584, 585, 785, 786, 78]
def mTys : List FieldType := [.int, .boolean, .char, .byte, .object "CarryAlike$Walker"]
end
section
/-! what the tables say of the links, the methods and the classes: decided once, over whole lists -/
def lk {α : Type} : List (Nat × α) → Nat → Option α
  | [], _ => none
  | q :: r, k => if q.1 = k then some q.2 else lk r k
theorem lk_mem {α : Type} : ∀ {l : List (Nat × α)} {k : Nat} {v : α}, lk l k = some v → (k, v) ∈ l
  | [], k, v, h => by cases h
  | q :: r, k, v, h => by
    unfold lk at h
    split at h
    · next e => cases h; exact List.mem_cons.mpr (Or.inl (by rw [← e]))
    · exact List.mem_cons_of_mem _ (lk_mem h)
theorem mDef {α : Type} (l : List (List α)) (o : Nat) (h : l.length ≤ o) : l.getD o [] = [] := by
  rw [List.getD_eq_getElem?_getD, List.getElem?_eq_none h]; rfl
def mOwnN : Nat := 14
def mFchk (o : Nat) (e : Nat × Nat × Nat) : Bool := match vwCl[e.2.1]?, lk (mFq o) e.1 with
  | some r, some q => decide (e.2.2 < r.2.2) && decide ((r.2.1 e.2.2).1 = r.1) && decide (lw_tbl[mPriv + q.1]? = some (if q.2 then .fieldLinkNest (mCn o) e.1 r.1 (r.2.1 e.2.2).2.1 (r.2.1 e.2.2).2.2.1 "CarryAlike" else .fieldLink (mCn o) e.1 r.1 (r.2.1 e.2.2).2.1 (r.2.1 e.2.2).2.2.1))
  | _, _ => false
set_option maxRecDepth 100000 in
theorem mF_ok : (List.range mOwnN).all (fun o => (mFt o).all (mFchk o)) = true := by decide +kernel
def mMchk (o : Nat) (e : Nat × Nat) : Bool := match lk (mMq o) e.1 with
  | some q => decide (e.2 < mCount) && decide ((mNm e.2).cls ≠ "CarryAlikeLaw") && decide (lw_tbl[mPriv + q.1]? = some (if q.2 then .methodLinkNest (mCn o) e.1 (mNm e.2) "CarryAlike" else .methodLink (mCn o) e.1 (mNm e.2)))
  | none => false
set_option maxRecDepth 100000 in
theorem mM_ok : (List.range mOwnN).all (fun o => (mMt o).all (mMchk o)) = true := by decide +kernel
def mYcP (y : Nat) : Prop := lw_tbl[(mPos y).1]? = some (.code (mNm y) (mCd y) (mMx y) (mRt y))
set_option maxRecDepth 200000 in
theorem mYc_0 : mYcP 0 := rfl
set_option maxRecDepth 200000 in
theorem mYc_1 : mYcP 1 := rfl
set_option maxRecDepth 200000 in
theorem mYc_2 : mYcP 2 := rfl
set_option maxRecDepth 200000 in
theorem mYc_3 : mYcP 3 := rfl
set_option maxRecDepth 200000 in
theorem mYc_4 : mYcP 4 := rfl
set_option maxRecDepth 200000 in
theorem mYc_5 : mYcP 5 := rfl
set_option maxRecDepth 200000 in
theorem mYc_6 : mYcP 6 := rfl
set_option maxRecDepth 200000 in
theorem mYc_7 : mYcP 7 := rfl
set_option maxRecDepth 200000 in
theorem mYc_8 : mYcP 8 := rfl
set_option maxRecDepth 200000 in
theorem mYc_9 : mYcP 9 := rfl
set_option maxRecDepth 200000 in
theorem mYc_10 : mYcP 10 := rfl
set_option maxRecDepth 200000 in
theorem mYc_11 : mYcP 11 := rfl
set_option maxRecDepth 200000 in
theorem mYc_12 : mYcP 12 := rfl
set_option maxRecDepth 200000 in
theorem mYc_13 : mYcP 13 := rfl
set_option maxRecDepth 200000 in
theorem mYc_14 : mYcP 14 := rfl
set_option maxRecDepth 200000 in
theorem mYc_15 : mYcP 15 := rfl
set_option maxRecDepth 200000 in
theorem mYc_16 : mYcP 16 := rfl
set_option maxRecDepth 200000 in
theorem mYc_17 : mYcP 17 := rfl
set_option maxRecDepth 200000 in
theorem mYc_18 : mYcP 18 := rfl
set_option maxRecDepth 200000 in
theorem mYc_19 : mYcP 19 := rfl
set_option maxRecDepth 200000 in
theorem mYc_20 : mYcP 20 := rfl
set_option maxRecDepth 200000 in
theorem mYc_21 : mYcP 21 := rfl
set_option maxRecDepth 200000 in
theorem mYc_22 : mYcP 22 := rfl
set_option maxRecDepth 200000 in
theorem mYc_23 : mYcP 23 := rfl
set_option maxRecDepth 200000 in
theorem mYc_24 : mYcP 24 := rfl
set_option maxRecDepth 200000 in
theorem mYc_25 : mYcP 25 := rfl
set_option maxRecDepth 200000 in
theorem mYc_26 : mYcP 26 := rfl
set_option maxRecDepth 200000 in
theorem mYc_27 : mYcP 27 := rfl
set_option maxRecDepth 200000 in
theorem mYc_28 : mYcP 28 := rfl
set_option maxRecDepth 200000 in
theorem mYc_29 : mYcP 29 := rfl
set_option maxRecDepth 200000 in
theorem mYc_30 : mYcP 30 := rfl
set_option maxRecDepth 200000 in
theorem mYc_31 : mYcP 31 := rfl
set_option maxRecDepth 200000 in
theorem mYc_32 : mYcP 32 := rfl
set_option maxRecDepth 200000 in
theorem mYc_33 : mYcP 33 := rfl
set_option maxRecDepth 200000 in
theorem mYc_34 : mYcP 34 := rfl
set_option maxRecDepth 200000 in
theorem mYc_35 : mYcP 35 := rfl
set_option maxRecDepth 200000 in
theorem mYc_36 : mYcP 36 := rfl
set_option maxRecDepth 200000 in
theorem mYc_37 : mYcP 37 := rfl
set_option maxRecDepth 200000 in
theorem mYc_38 : mYcP 38 := rfl
set_option maxRecDepth 200000 in
theorem mYc_39 : mYcP 39 := rfl
set_option maxRecDepth 200000 in
theorem mYc_40 : mYcP 40 := rfl
set_option maxRecDepth 200000 in
theorem mYc_41 : mYcP 41 := rfl
set_option maxRecDepth 200000 in
theorem mYc_42 : mYcP 42 := rfl
set_option maxRecDepth 200000 in
theorem mYc_43 : mYcP 43 := rfl
set_option maxRecDepth 200000 in
theorem mYc_44 : mYcP 44 := rfl
set_option maxRecDepth 200000 in
theorem mYc_45 : mYcP 45 := rfl
set_option maxRecDepth 200000 in
theorem mYc_46 : mYcP 46 := rfl
set_option maxRecDepth 200000 in
theorem mYc_47 : mYcP 47 := rfl
set_option maxRecDepth 200000 in
theorem mYc_48 : mYcP 48 := rfl
set_option maxRecDepth 200000 in
theorem mYc_49 : mYcP 49 := rfl
set_option maxRecDepth 200000 in
theorem mYc_50 : mYcP 50 := rfl
set_option maxRecDepth 200000 in
theorem mYc_51 : mYcP 51 := rfl
set_option maxRecDepth 200000 in
theorem mYc_52 : mYcP 52 := rfl
set_option maxRecDepth 200000 in
theorem mYc_53 : mYcP 53 := rfl
set_option maxRecDepth 200000 in
theorem mYc_54 : mYcP 54 := rfl
set_option maxRecDepth 200000 in
theorem mYc_55 : mYcP 55 := rfl
set_option maxRecDepth 200000 in
theorem mYc_56 : mYcP 56 := rfl
set_option maxRecDepth 200000 in
theorem mYc_57 : mYcP 57 := rfl
set_option maxRecDepth 200000 in
theorem mYc_58 : mYcP 58 := rfl
set_option maxRecDepth 200000 in
theorem mYc_59 : mYcP 59 := rfl
set_option maxRecDepth 200000 in
theorem mYc_60 : mYcP 60 := rfl
set_option maxRecDepth 200000 in
theorem mYc_61 : mYcP 61 := rfl
set_option maxRecDepth 200000 in
theorem mYc_62 : mYcP 62 := rfl
set_option maxRecDepth 200000 in
theorem mYc_63 : mYcP 63 := rfl
set_option maxRecDepth 200000 in
theorem mYc_64 : mYcP 64 := rfl
set_option maxRecDepth 200000 in
theorem mYc_65 : mYcP 65 := rfl
set_option maxRecDepth 200000 in
theorem mYc_66 : mYcP 66 := rfl
set_option maxRecDepth 200000 in
theorem mYc_67 : mYcP 67 := rfl
set_option maxRecDepth 200000 in
theorem mYc_68 : mYcP 68 := rfl
set_option maxRecDepth 200000 in
theorem mYc_69 : mYcP 69 := rfl
set_option maxRecDepth 200000 in
theorem mYc_70 : mYcP 70 := rfl
set_option maxRecDepth 200000 in
theorem mYc_71 : mYcP 71 := rfl
set_option maxRecDepth 200000 in
theorem mYc_72 : mYcP 72 := rfl
set_option maxRecDepth 200000 in
theorem mYc_73 : mYcP 73 := rfl
set_option maxRecDepth 200000 in
theorem mYc_74 : mYcP 74 := rfl
set_option maxRecDepth 200000 in
theorem mYc_75 : mYcP 75 := rfl
set_option maxRecDepth 200000 in
theorem mYc_76 : mYcP 76 := rfl
set_option maxRecDepth 200000 in
theorem mYc_77 : mYcP 77 := rfl
set_option maxRecDepth 200000 in
theorem mYc_78 : mYcP 78 := rfl
set_option maxRecDepth 200000 in
theorem mYc_79 : mYcP 79 := rfl
set_option maxRecDepth 200000 in
theorem mYc_80 : mYcP 80 := rfl
set_option maxRecDepth 200000 in
theorem mYc_81 : mYcP 81 := rfl
set_option maxRecDepth 200000 in
theorem mYc_82 : mYcP 82 := rfl
set_option maxRecDepth 200000 in
theorem mYc_83 : mYcP 83 := rfl
set_option maxRecDepth 200000 in
theorem mYc_84 : mYcP 84 := rfl
set_option maxRecDepth 200000 in
theorem mYc_85 : mYcP 85 := rfl
set_option maxRecDepth 200000 in
theorem mYc_86 : mYcP 86 := rfl
set_option maxRecDepth 200000 in
theorem mYc_87 : mYcP 87 := rfl
set_option maxRecDepth 200000 in
theorem mYc_88 : mYcP 88 := rfl
set_option maxRecDepth 200000 in
theorem mYc_89 : mYcP 89 := rfl
set_option maxRecDepth 200000 in
theorem mYc_90 : mYcP 90 := rfl
set_option maxRecDepth 200000 in
theorem mYc_91 : mYcP 91 := rfl
set_option maxRecDepth 200000 in
theorem mYc_92 : mYcP 92 := rfl
set_option maxRecDepth 200000 in
theorem mYc_93 : mYcP 93 := rfl
set_option maxRecDepth 200000 in
theorem mYc_94 : mYcP 94 := rfl
set_option maxRecDepth 200000 in
theorem mYc_95 : mYcP 95 := rfl
set_option maxRecDepth 200000 in
theorem mYc_96 : mYcP 96 := rfl
set_option maxRecDepth 200000 in
theorem mYc_97 : mYcP 97 := rfl
set_option maxRecDepth 200000 in
theorem mYc_98 : mYcP 98 := rfl
set_option maxRecDepth 200000 in
theorem mYc_99 : mYcP 99 := rfl
set_option maxRecDepth 200000 in
theorem mYc_100 : mYcP 100 := rfl
set_option maxRecDepth 200000 in
theorem mYc_101 : mYcP 101 := rfl
set_option maxRecDepth 200000 in
theorem mYc_102 : mYcP 102 := rfl
set_option maxRecDepth 200000 in
theorem mYc_103 : mYcP 103 := rfl
set_option maxRecDepth 200000 in
theorem mYc_104 : mYcP 104 := rfl
set_option maxRecDepth 200000 in
theorem mYc_105 : mYcP 105 := rfl
set_option maxRecDepth 200000 in
theorem mYc_106 : mYcP 106 := rfl
set_option maxRecDepth 200000 in
theorem mYc_107 : mYcP 107 := rfl
set_option maxRecDepth 200000 in
theorem mYc_108 : mYcP 108 := rfl
set_option maxRecDepth 200000 in
theorem mYc_109 : mYcP 109 := rfl
set_option maxRecDepth 200000 in
theorem mYc_110 : mYcP 110 := rfl
set_option maxRecDepth 200000 in
theorem mYc_111 : mYcP 111 := rfl
set_option maxRecDepth 200000 in
theorem mYc_112 : mYcP 112 := rfl
set_option maxRecDepth 200000 in
theorem mYc_113 : mYcP 113 := rfl
set_option maxRecDepth 200000 in
theorem mYc_114 : mYcP 114 := rfl
set_option maxRecDepth 200000 in
theorem mYc_115 : mYcP 115 := rfl
set_option maxRecDepth 200000 in
theorem mYc_116 : mYcP 116 := rfl
set_option maxRecDepth 200000 in
theorem mYc_117 : mYcP 117 := rfl
set_option maxRecDepth 200000 in
theorem mYc_118 : mYcP 118 := rfl
set_option maxRecDepth 200000 in
theorem mYc_119 : mYcP 119 := rfl
set_option maxRecDepth 200000 in
theorem mYc_120 : mYcP 120 := rfl
set_option maxRecDepth 200000 in
theorem mYc_121 : mYcP 121 := rfl
set_option maxRecDepth 200000 in
theorem mYc_122 : mYcP 122 := rfl
set_option maxRecDepth 200000 in
theorem mYc_123 : mYcP 123 := rfl
set_option maxRecDepth 200000 in
theorem mYc_124 : mYcP 124 := rfl
set_option maxRecDepth 200000 in
theorem mYc_125 : mYcP 125 := rfl
set_option maxRecDepth 200000 in
theorem mYc_126 : mYcP 126 := rfl
set_option maxRecDepth 200000 in
theorem mYc_127 : mYcP 127 := rfl
set_option maxRecDepth 200000 in
theorem mYc_128 : mYcP 128 := rfl
set_option maxRecDepth 200000 in
theorem mYc_129 : mYcP 129 := rfl
set_option maxRecDepth 200000 in
theorem mYc_130 : mYcP 130 := rfl
set_option maxRecDepth 200000 in
theorem mYc_131 : mYcP 131 := rfl
set_option maxRecDepth 200000 in
theorem mYc_132 : mYcP 132 := rfl
set_option maxRecDepth 200000 in
theorem mYc_133 : mYcP 133 := rfl
set_option maxRecDepth 200000 in
theorem mYc_134 : mYcP 134 := rfl
set_option maxRecDepth 200000 in
theorem mYc_135 : mYcP 135 := rfl
set_option maxRecDepth 200000 in
theorem mYc_136 : mYcP 136 := rfl
set_option maxRecDepth 200000 in
theorem mYc_137 : mYcP 137 := rfl
set_option maxRecDepth 200000 in
theorem mYc_138 : mYcP 138 := rfl
set_option maxRecDepth 200000 in
theorem mYc_139 : mYcP 139 := rfl
set_option maxRecDepth 200000 in
theorem mYc_140 : mYcP 140 := rfl
set_option maxRecDepth 200000 in
theorem mYc_141 : mYcP 141 := rfl
set_option maxRecDepth 200000 in
theorem mYc_142 : mYcP 142 := rfl
set_option maxRecDepth 200000 in
theorem mYc_143 : mYcP 143 := rfl
set_option maxRecDepth 200000 in
theorem mYc_144 : mYcP 144 := rfl
set_option maxRecDepth 200000 in
theorem mYc_145 : mYcP 145 := rfl
set_option maxRecDepth 200000 in
theorem mYc_146 : mYcP 146 := rfl
set_option maxRecDepth 200000 in
theorem mYc_147 : mYcP 147 := rfl
set_option maxRecDepth 200000 in
theorem mYc_148 : mYcP 148 := rfl
set_option maxRecDepth 200000 in
theorem mYc_149 : mYcP 149 := rfl
set_option maxRecDepth 200000 in
theorem mYc_150 : mYcP 150 := rfl
set_option maxRecDepth 200000 in
theorem mYc_151 : mYcP 151 := rfl
set_option maxRecDepth 200000 in
theorem mYc_152 : mYcP 152 := rfl
set_option maxRecDepth 200000 in
theorem mYc_153 : mYcP 153 := rfl
set_option maxRecDepth 200000 in
theorem mYc_154 : mYcP 154 := rfl
set_option maxRecDepth 200000 in
theorem mYc_155 : mYcP 155 := rfl
set_option maxRecDepth 200000 in
theorem mYc_156 : mYcP 156 := rfl
set_option maxRecDepth 200000 in
theorem mYc_157 : mYcP 157 := rfl
set_option maxRecDepth 200000 in
theorem mYc_158 : mYcP 158 := rfl
set_option maxRecDepth 200000 in
theorem mYc_159 : mYcP 159 := rfl
set_option maxRecDepth 200000 in
theorem mYc_160 : mYcP 160 := rfl
set_option maxRecDepth 200000 in
theorem mYc_161 : mYcP 161 := rfl
set_option maxRecDepth 200000 in
theorem mYc_162 : mYcP 162 := rfl
set_option maxRecDepth 200000 in
theorem mYc_163 : mYcP 163 := rfl
set_option maxRecDepth 200000 in
theorem mYc_164 : mYcP 164 := rfl
set_option maxRecDepth 200000 in
theorem mYc_165 : mYcP 165 := rfl
set_option maxRecDepth 200000 in
theorem mYc_166 : mYcP 166 := rfl
set_option maxRecDepth 200000 in
theorem mYc_167 : mYcP 167 := rfl
set_option maxRecDepth 200000 in
theorem mYc_168 : mYcP 168 := rfl
set_option maxRecDepth 200000 in
theorem mYc_169 : mYcP 169 := rfl
set_option maxRecDepth 200000 in
theorem mYc_170 : mYcP 170 := rfl
set_option maxRecDepth 200000 in
theorem mYc_171 : mYcP 171 := rfl
set_option maxRecDepth 200000 in
theorem mYc_172 : mYcP 172 := rfl
set_option maxRecDepth 200000 in
theorem mYc_173 : mYcP 173 := rfl
set_option maxRecDepth 200000 in
theorem mYc_174 : mYcP 174 := rfl
set_option maxRecDepth 200000 in
theorem mYc_175 : mYcP 175 := rfl
set_option maxRecDepth 200000 in
theorem mYc_176 : mYcP 176 := rfl
set_option maxRecDepth 200000 in
theorem mYc_177 : mYcP 177 := rfl
theorem mYcs_0 : ∀ y ∈ ([0, 1, 2, 3, 4, 5, 6, 7, 8, 9, 10, 11, 12, 13, 14, 15] : List Nat), mYcP y := List.forall_mem_cons.mpr ⟨mYc_0, List.forall_mem_cons.mpr ⟨mYc_1, List.forall_mem_cons.mpr ⟨mYc_2, List.forall_mem_cons.mpr ⟨mYc_3, List.forall_mem_cons.mpr ⟨mYc_4, List.forall_mem_cons.mpr ⟨mYc_5, List.forall_mem_cons.mpr ⟨mYc_6, List.forall_mem_cons.mpr ⟨mYc_7, List.forall_mem_cons.mpr ⟨mYc_8, List.forall_mem_cons.mpr ⟨mYc_9, List.forall_mem_cons.mpr ⟨mYc_10, List.forall_mem_cons.mpr ⟨mYc_11, List.forall_mem_cons.mpr ⟨mYc_12, List.forall_mem_cons.mpr ⟨mYc_13, List.forall_mem_cons.mpr ⟨mYc_14, List.forall_mem_cons.mpr ⟨mYc_15, fun _ h => absurd h List.not_mem_nil⟩⟩⟩⟩⟩⟩⟩⟩⟩⟩⟩⟩⟩⟩⟩⟩
theorem mYcs_1 : ∀ y ∈ ([16, 17, 18, 19, 20, 21, 22, 23, 24, 25, 26, 27, 28, 29, 30, 31] : List Nat), mYcP y := List.forall_mem_cons.mpr ⟨mYc_16, List.forall_mem_cons.mpr ⟨mYc_17, List.forall_mem_cons.mpr ⟨mYc_18, List.forall_mem_cons.mpr ⟨mYc_19, List.forall_mem_cons.mpr ⟨mYc_20, List.forall_mem_cons.mpr ⟨mYc_21, List.forall_mem_cons.mpr ⟨mYc_22, List.forall_mem_cons.mpr ⟨mYc_23, List.forall_mem_cons.mpr ⟨mYc_24, List.forall_mem_cons.mpr ⟨mYc_25, List.forall_mem_cons.mpr ⟨mYc_26, List.forall_mem_cons.mpr ⟨mYc_27, List.forall_mem_cons.mpr ⟨mYc_28, List.forall_mem_cons.mpr ⟨mYc_29, List.forall_mem_cons.mpr ⟨mYc_30, List.forall_mem_cons.mpr ⟨mYc_31, fun _ h => absurd h List.not_mem_nil⟩⟩⟩⟩⟩⟩⟩⟩⟩⟩⟩⟩⟩⟩⟩⟩
theorem mYcs_2 : ∀ y ∈ ([32, 33, 34, 35, 36, 37, 38, 39, 40, 41, 42, 43, 44, 45, 46, 47] : List Nat), mYcP y := List.forall_mem_cons.mpr ⟨mYc_32, List.forall_mem_cons.mpr ⟨mYc_33, List.forall_mem_cons.mpr ⟨mYc_34, List.forall_mem_cons.mpr ⟨mYc_35, List.forall_mem_cons.mpr ⟨mYc_36, List.forall_mem_cons.mpr ⟨mYc_37, List.forall_mem_cons.mpr ⟨mYc_38, List.forall_mem_cons.mpr ⟨mYc_39, List.forall_mem_cons.mpr ⟨mYc_40, List.forall_mem_cons.mpr ⟨mYc_41, List.forall_mem_cons.mpr ⟨mYc_42, List.forall_mem_cons.mpr ⟨mYc_43, List.forall_mem_cons.mpr ⟨mYc_44, List.forall_mem_cons.mpr ⟨mYc_45, List.forall_mem_cons.mpr ⟨mYc_46, List.forall_mem_cons.mpr ⟨mYc_47, fun _ h => absurd h List.not_mem_nil⟩⟩⟩⟩⟩⟩⟩⟩⟩⟩⟩⟩⟩⟩⟩⟩
theorem mYcs_3 : ∀ y ∈ ([48, 49, 50, 51, 52, 53, 54, 55, 56, 57, 58, 59, 60, 61, 62, 63] : List Nat), mYcP y := List.forall_mem_cons.mpr ⟨mYc_48, List.forall_mem_cons.mpr ⟨mYc_49, List.forall_mem_cons.mpr ⟨mYc_50, List.forall_mem_cons.mpr ⟨mYc_51, List.forall_mem_cons.mpr ⟨mYc_52, List.forall_mem_cons.mpr ⟨mYc_53, List.forall_mem_cons.mpr ⟨mYc_54, List.forall_mem_cons.mpr ⟨mYc_55, List.forall_mem_cons.mpr ⟨mYc_56, List.forall_mem_cons.mpr ⟨mYc_57, List.forall_mem_cons.mpr ⟨mYc_58, List.forall_mem_cons.mpr ⟨mYc_59, List.forall_mem_cons.mpr ⟨mYc_60, List.forall_mem_cons.mpr ⟨mYc_61, List.forall_mem_cons.mpr ⟨mYc_62, List.forall_mem_cons.mpr ⟨mYc_63, fun _ h => absurd h List.not_mem_nil⟩⟩⟩⟩⟩⟩⟩⟩⟩⟩⟩⟩⟩⟩⟩⟩
theorem mYcs_4 : ∀ y ∈ ([64, 65, 66, 67, 68, 69, 70, 71, 72, 73, 74, 75, 76, 77, 78, 79] : List Nat), mYcP y := List.forall_mem_cons.mpr ⟨mYc_64, List.forall_mem_cons.mpr ⟨mYc_65, List.forall_mem_cons.mpr ⟨mYc_66, List.forall_mem_cons.mpr ⟨mYc_67, List.forall_mem_cons.mpr ⟨mYc_68, List.forall_mem_cons.mpr ⟨mYc_69, List.forall_mem_cons.mpr ⟨mYc_70, List.forall_mem_cons.mpr ⟨mYc_71, List.forall_mem_cons.mpr ⟨mYc_72, List.forall_mem_cons.mpr ⟨mYc_73, List.forall_mem_cons.mpr ⟨mYc_74, List.forall_mem_cons.mpr ⟨mYc_75, List.forall_mem_cons.mpr ⟨mYc_76, List.forall_mem_cons.mpr ⟨mYc_77, List.forall_mem_cons.mpr ⟨mYc_78, List.forall_mem_cons.mpr ⟨mYc_79, fun _ h => absurd h List.not_mem_nil⟩⟩⟩⟩⟩⟩⟩⟩⟩⟩⟩⟩⟩⟩⟩⟩
theorem mYcs_5 : ∀ y ∈ ([80, 81, 82, 83, 84, 85, 86, 87, 88, 89, 90, 91, 92, 93, 94, 95] : List Nat), mYcP y := List.forall_mem_cons.mpr ⟨mYc_80, List.forall_mem_cons.mpr ⟨mYc_81, List.forall_mem_cons.mpr ⟨mYc_82, List.forall_mem_cons.mpr ⟨mYc_83, List.forall_mem_cons.mpr ⟨mYc_84, List.forall_mem_cons.mpr ⟨mYc_85, List.forall_mem_cons.mpr ⟨mYc_86, List.forall_mem_cons.mpr ⟨mYc_87, List.forall_mem_cons.mpr ⟨mYc_88, List.forall_mem_cons.mpr ⟨mYc_89, List.forall_mem_cons.mpr ⟨mYc_90, List.forall_mem_cons.mpr ⟨mYc_91, List.forall_mem_cons.mpr ⟨mYc_92, List.forall_mem_cons.mpr ⟨mYc_93, List.forall_mem_cons.mpr ⟨mYc_94, List.forall_mem_cons.mpr ⟨mYc_95, fun _ h => absurd h List.not_mem_nil⟩⟩⟩⟩⟩⟩⟩⟩⟩⟩⟩⟩⟩⟩⟩⟩
theorem mYcs_6 : ∀ y ∈ ([96, 97, 98, 99, 100, 101, 102, 103, 104, 105, 106, 107, 108, 109, 110, 111] : List Nat), mYcP y := List.forall_mem_cons.mpr ⟨mYc_96, List.forall_mem_cons.mpr ⟨mYc_97, List.forall_mem_cons.mpr ⟨mYc_98, List.forall_mem_cons.mpr ⟨mYc_99, List.forall_mem_cons.mpr ⟨mYc_100, List.forall_mem_cons.mpr ⟨mYc_101, List.forall_mem_cons.mpr ⟨mYc_102, List.forall_mem_cons.mpr ⟨mYc_103, List.forall_mem_cons.mpr ⟨mYc_104, List.forall_mem_cons.mpr ⟨mYc_105, List.forall_mem_cons.mpr ⟨mYc_106, List.forall_mem_cons.mpr ⟨mYc_107, List.forall_mem_cons.mpr ⟨mYc_108, List.forall_mem_cons.mpr ⟨mYc_109, List.forall_mem_cons.mpr ⟨mYc_110, List.forall_mem_cons.mpr ⟨mYc_111, fun _ h => absurd h List.not_mem_nil⟩⟩⟩⟩⟩⟩⟩⟩⟩⟩⟩⟩⟩⟩⟩⟩
theorem mYcs_7 : ∀ y ∈ ([112, 113, 114, 115, 116, 117, 118, 119, 120, 121, 122, 123, 124, 125, 126, 127] : List Nat), mYcP y := List.forall_mem_cons.mpr ⟨mYc_112, List.forall_mem_cons.mpr ⟨mYc_113, List.forall_mem_cons.mpr ⟨mYc_114, List.forall_mem_cons.mpr ⟨mYc_115, List.forall_mem_cons.mpr ⟨mYc_116, List.forall_mem_cons.mpr ⟨mYc_117, List.forall_mem_cons.mpr ⟨mYc_118, List.forall_mem_cons.mpr ⟨mYc_119, List.forall_mem_cons.mpr ⟨mYc_120, List.forall_mem_cons.mpr ⟨mYc_121, List.forall_mem_cons.mpr ⟨mYc_122, List.forall_mem_cons.mpr ⟨mYc_123, List.forall_mem_cons.mpr ⟨mYc_124, List.forall_mem_cons.mpr ⟨mYc_125, List.forall_mem_cons.mpr ⟨mYc_126, List.forall_mem_cons.mpr ⟨mYc_127, fun _ h => absurd h List.not_mem_nil⟩⟩⟩⟩⟩⟩⟩⟩⟩⟩⟩⟩⟩⟩⟩⟩
theorem mYcs_8 : ∀ y ∈ ([128, 129, 130, 131, 132, 133, 134, 135, 136, 137, 138, 139, 140, 141, 142, 143] : List Nat), mYcP y := List.forall_mem_cons.mpr ⟨mYc_128, List.forall_mem_cons.mpr ⟨mYc_129, List.forall_mem_cons.mpr ⟨mYc_130, List.forall_mem_cons.mpr ⟨mYc_131, List.forall_mem_cons.mpr ⟨mYc_132, List.forall_mem_cons.mpr ⟨mYc_133, List.forall_mem_cons.mpr ⟨mYc_134, List.forall_mem_cons.mpr ⟨mYc_135, List.forall_mem_cons.mpr ⟨mYc_136, List.forall_mem_cons.mpr ⟨mYc_137, List.forall_mem_cons.mpr ⟨mYc_138, List.forall_mem_cons.mpr ⟨mYc_139, List.forall_mem_cons.mpr ⟨mYc_140, List.forall_mem_cons.mpr ⟨mYc_141, List.forall_mem_cons.mpr ⟨mYc_142, List.forall_mem_cons.mpr ⟨mYc_143, fun _ h => absurd h List.not_mem_nil⟩⟩⟩⟩⟩⟩⟩⟩⟩⟩⟩⟩⟩⟩⟩⟩
theorem mYcs_9 : ∀ y ∈ ([144, 145, 146, 147, 148, 149, 150, 151, 152, 153, 154, 155, 156, 157, 158, 159] : List Nat), mYcP y := List.forall_mem_cons.mpr ⟨mYc_144, List.forall_mem_cons.mpr ⟨mYc_145, List.forall_mem_cons.mpr ⟨mYc_146, List.forall_mem_cons.mpr ⟨mYc_147, List.forall_mem_cons.mpr ⟨mYc_148, List.forall_mem_cons.mpr ⟨mYc_149, List.forall_mem_cons.mpr ⟨mYc_150, List.forall_mem_cons.mpr ⟨mYc_151, List.forall_mem_cons.mpr ⟨mYc_152, List.forall_mem_cons.mpr ⟨mYc_153, List.forall_mem_cons.mpr ⟨mYc_154, List.forall_mem_cons.mpr ⟨mYc_155, List.forall_mem_cons.mpr ⟨mYc_156, List.forall_mem_cons.mpr ⟨mYc_157, List.forall_mem_cons.mpr ⟨mYc_158, List.forall_mem_cons.mpr ⟨mYc_159, fun _ h => absurd h List.not_mem_nil⟩⟩⟩⟩⟩⟩⟩⟩⟩⟩⟩⟩⟩⟩⟩⟩
theorem mYcs_10 : ∀ y ∈ ([160, 161, 162, 163, 164, 165, 166, 167, 168, 169, 170, 171, 172, 173, 174, 175] : List Nat), mYcP y := List.forall_mem_cons.mpr ⟨mYc_160, List.forall_mem_cons.mpr ⟨mYc_161, List.forall_mem_cons.mpr ⟨mYc_162, List.forall_mem_cons.mpr ⟨mYc_163, List.forall_mem_cons.mpr ⟨mYc_164, List.forall_mem_cons.mpr ⟨mYc_165, List.forall_mem_cons.mpr ⟨mYc_166, List.forall_mem_cons.mpr ⟨mYc_167, List.forall_mem_cons.mpr ⟨mYc_168, List.forall_mem_cons.mpr ⟨mYc_169, List.forall_mem_cons.mpr ⟨mYc_170, List.forall_mem_cons.mpr ⟨mYc_171, List.forall_mem_cons.mpr ⟨mYc_172, List.forall_mem_cons.mpr ⟨mYc_173, List.forall_mem_cons.mpr ⟨mYc_174, List.forall_mem_cons.mpr ⟨mYc_175, fun _ h => absurd h List.not_mem_nil⟩⟩⟩⟩⟩⟩⟩⟩⟩⟩⟩⟩⟩⟩⟩⟩
theorem mYcs_11 : ∀ y ∈ ([176, 177] : List Nat), mYcP y := List.forall_mem_cons.mpr ⟨mYc_176, List.forall_mem_cons.mpr ⟨mYc_177, fun _ h => absurd h List.not_mem_nil⟩⟩
def mYcL : List Nat := [0, 1, 2, 3, 4, 5, 6, 7, 8, 9, 10, 11, 12, 13, 14, 15] ++ [16, 17, 18, 19, 20, 21, 22, 23, 24, 25, 26, 27, 28, 29, 30, 31] ++ [32, 33, 34, 35, 36, 37, 38, 39, 40, 41, 42, 43, 44, 45, 46, 47] ++ [48, 49, 50, 51, 52, 53, 54, 55, 56, 57, 58, 59, 60, 61, 62, 63] ++ [64, 65, 66, 67, 68, 69, 70, 71, 72, 73, 74, 75, 76, 77, 78, 79] ++ [80, 81, 82, 83, 84, 85, 86, 87, 88, 89, 90, 91, 92, 93, 94, 95] ++ [96, 97, 98, 99, 100, 101, 102, 103, 104, 105, 106, 107, 108, 109, 110, 111] ++ [112, 113, 114, 115, 116, 117, 118, 119, 120, 121, 122, 123, 124, 125, 126, 127] ++ [128, 129, 130, 131, 132, 133, 134, 135, 136, 137, 138, 139, 140, 141, 142, 143] ++ [144, 145, 146, 147, 148, 149, 150, 151, 152, 153, 154, 155, 156, 157, 158, 159] ++ [160, 161, 162, 163, 164, 165, 166, 167, 168, 169, 170, 171, 172, 173, 174, 175] ++ [176, 177]
theorem mYc_all : ∀ y ∈ mYcL, mYcP y := by
  intro y hy
  unfold mYcL at hy
  simp only [List.mem_append] at hy
  rcases hy with ((((((((((hy | hy) | hy) | hy) | hy) | hy) | hy) | hy) | hy) | hy) | hy) | hy
  · exact mYcs_0 y hy
  · exact mYcs_1 y hy
  · exact mYcs_2 y hy
  · exact mYcs_3 y hy
  · exact mYcs_4 y hy
  · exact mYcs_5 y hy
  · exact mYcs_6 y hy
  · exact mYcs_7 y hy
  · exact mYcs_8 y hy
  · exact mYcs_9 y hy
  · exact mYcs_10 y hy
  · exact mYcs_11 y hy
theorem mYcL_ok : (List.range mCount).all (fun y => decide ((mNm y).cls = "CarryAlikeLaw") || decide (y ∈ mYcL)) = true := by decide +kernel
def mNchk (o : Nat) (e : Nat × Nat) : Bool := decide (lw_tbl[mPriv + e.2]? = some (.methodLink (mCn o) e.1 Lib.objectInit))
theorem mN_ok : (List.range mOwnN).all (fun o => (mOq o).all (mNchk o)) = true := by decide +kernel
def mAcchk (o : Nat) (e : Nat × Nat) : Bool := decide (lw_tbl[mPriv + e.2]? = some (.methodLink (mCn o) e.1 arraycopyName))
theorem mAc_ok : (List.range mOwnN).all (fun o => (mNq o).all (mAcchk o)) = true := by decide +kernel
theorem mAc_w : lw_tbl[mAcL.getD 0 0]? = some (.native arraycopyName) ∧ lw_tbl[mAcL.getD 1 0]? = some (.static arraycopyName) ∧ lw_tbl[mAcL.getD 2 0]? = some (.initialized "java/lang/System") := by decide +kernel
theorem mOb_w : lw_tbl[mObL.getD 0 0]? = some (.code Lib.objectInit ⟨#[0xb1]⟩ 1 none) ∧ lw_tbl[mObL.getD 1 0]? = some (.instanceMethod Lib.objectInit) := by decide +kernel
def mXchk (o : Nat) (e : Nat × Nat × Bool) : Bool := decide (lw_tbl[mPriv + e.2.1]? = some (.methodLink (mCn o) e.1 (if e.2.2 then Lib.Math.max.name else Lib.Math.min.name)))
theorem mX_ok : (List.range mOwnN).all (fun o => (mXq o).all (mXchk o)) = true := by decide +kernel
theorem mMa_w : lw_tbl[mMaL.getD 0 0]? = some (.static Lib.Math.min.name) ∧ lw_tbl[mMaL.getD 2 0]? = some (.static Lib.Math.max.name) ∧ lw_tbl[mMaL.getD 4 0]? = some (.initialized "java/lang/Math") := by decide +kernel
set_option maxRecDepth 200000 in
theorem mMa_min : lw_tbl[mMaL.getD 1 0]? = some (.code Lib.Math.min.name Lib.Math.min.code 2 (some .int)) := by decide +kernel
set_option maxRecDepth 200000 in
theorem mMa_max : lw_tbl[mMaL.getD 3 0]? = some (.code Lib.Math.max.name Lib.Math.max.code 2 (some .int)) := by decide +kernel
def mCchk (o : Nat) (e : Nat × Nat) : Bool := match vwCl[e.2]?, lk (mCq o) e.1 with
  | some r, some q => decide (lw_tbl[mPriv + q]? = some (.classLink (mCn o) e.1 r.1))
  | _, _ => false
theorem mC_ok : (List.range mOwnN).all (fun o => (mCt o).all (mCchk o)) = true := by decide +kernel
def mAchk (o : Nat) (e : Nat × Nat) : Bool := decide (lw_tbl[mPriv + e.2]? = some (.classLink (mCn o) e.1 "CarryAlike$Walker"))
theorem mA_ok : (List.range mOwnN).all (fun o => (mAq o).all (mAchk o)) = true := by decide +kernel
def mKchk (o : Nat) (e : Nat × (Int32 ⊕ Int64)) : Bool := match lk (mKq o) e.1 with
  | some q => decide (lw_tbl[mPriv + q]? = some (match e.2 with | .inl v => .constant (mCn o) e.1 v | .inr v => .constantLong (mCn o) e.1 v))
  | none => false
theorem mK_ok : (List.range mOwnN).all (fun o => (mKt o).all (mKchk o)) = true := by decide +kernel
def mLchk (ci : Nat) (r : vw_C) : Bool := match mCpL[ci]? with
  | some q => decide (lw_tbl[q.1]? = some (.instantiable r.1 r.2.2)) && decide (lw_tbl[q.2.1]? = some (.initialized r.1)) && (List.range r.2.2).all (fun k => decide (lw_tbl[q.2.2.getD k 0]? = some (u_lay r.1 r.2.1 k)) && (parseFieldDescriptor (r.2.1 k).2.2.1).isSome && (List.range r.2.2).all (fun j => decide (j = k) || decide ((r.2.1 j).2.1 ≠ (r.2.1 k).2.1))) && decide (mCn ci = r.1)
  | none => false
set_option maxRecDepth 100000 in
theorem mL_ok : (List.range vwCl.length).all (fun ci => match vwCl[ci]? with | some r => mLchk ci r | none => false) = true := by decide +kernel
theorem mAr_w : lw_tbl[mArL.getD 0 0]? = some (.arrayClass .int) ∧ lw_tbl[mArL.getD 1 0]? = some (.arrayClass .boolean) ∧ lw_tbl[mArL.getD 2 0]? = some (.arrayClass .char) ∧ lw_tbl[mArL.getD 3 0]? = some (.arrayClass .byte) ∧ lw_tbl[mArL.getD 4 0]? = some (.arrayOver (.object "CarryAlike$Walker")) := by decide +kernel
theorem mLens : (mFt 14, mMt 14) = ([], []) := by decide +kernel
end
section
/-! what the tables say, by links -/
def mYchk (y : Nat) : Bool := (decide ((mNm y).cls = "CarryAlikeLaw")) || (decide (lw_tbl[(mPos y).2.1]? = some (.initialized (mNm y).cls)) && decide (lw_tbl[(mPos y).2.2.1]? = some (if mSta y then .static (mNm y) else .instanceMethod (mNm y))) && (mSta y || mIni y || decide (lw_tbl[(mPos y).2.2.2]? = some (.selects (mNm y).cls (mNm y) (mNm y)))) && decide ((mNm y).cls ≠ "java/lang/invoke/MethodHandle") && decide ((mNm y).cls ≠ "java/lang/invoke/VarHandle") && decide ((parseMethodDescriptor (mNm y).desc).map (fun d => d.parameters.length) = some (mNp y)) && decide (mOwn y < mOwnN) && decide (mCn (mOwn y) = (mNm y).cls) && (mIni y == decide ((mNm y).name = "<init>")) && (!(mIni y) || decide (mRt y = none)))
set_option maxRecDepth 100000 in
theorem mY_ok : (List.range mCount).all mYchk = true := by decide +kernel
theorem mPl_0 : plainName (mCn 0) = true := by decide
theorem mPl_1 : plainName (mCn 1) = true := by decide
theorem mPl_2 : plainName (mCn 2) = true := by decide
theorem mPl_3 : plainName (mCn 3) = true := by decide
theorem mPl_4 : plainName (mCn 4) = true := by decide
theorem mPl_5 : plainName (mCn 5) = true := by decide
theorem mPl_6 : plainName (mCn 6) = true := by decide
theorem mPl_7 : plainName (mCn 7) = true := by decide
theorem mPl_8 : plainName (mCn 8) = true := by decide
theorem mPl_9 : plainName (mCn 9) = true := by decide
theorem mPl_10 : plainName (mCn 10) = true := by decide
theorem mPl_11 : plainName (mCn 11) = true := by decide
theorem mPl_12 : plainName (mCn 12) = true := by decide
theorem mPl_13 : plainName (mCn 13) = true := by decide
theorem mPl : ∀ o, o < mOwnN → plainName (mCn o) = true := by
  intro o ho
  match o, ho with
  | 0, _ => exact mPl_0
  | 1, _ => exact mPl_1
  | 2, _ => exact mPl_2
  | 3, _ => exact mPl_3
  | 4, _ => exact mPl_4
  | 5, _ => exact mPl_5
  | 6, _ => exact mPl_6
  | 7, _ => exact mPl_7
  | 8, _ => exact mPl_8
  | 9, _ => exact mPl_9
  | 10, _ => exact mPl_10
  | 11, _ => exact mPl_11
  | 12, _ => exact mPl_12
  | 13, _ => exact mPl_13
  | n + 14, h => exact absurd h (by unfold mOwnN; omega)
/-- the words that a callee may ask for -/
def lw_G : List Cond := lw_tbl.filter goodWord
theorem lw_in {w : Cond} {i : Nat} (h : lw_tbl[i]? = some w) (hg : goodWord w = true) : w ∈ lw_G := List.mem_filter.mpr ⟨List.mem_of_getElem? h, hg⟩
theorem all_range {n : Nat} {f : Nat → Bool} (h : (List.range n).all f = true) {i : Nat} (hi : i < n) : f i = true := List.all_eq_true.mp h i (List.mem_range.mpr hi)
/-- a field by its link -/
theorem mF_get {o idx ci k : Nat} (h : lk (mFt o) idx = some (ci, k)) : ∃ r, vwCl[ci]? = some r ∧ k < r.2.2 ∧ (r.2.1 k).1 = r.1 ∧ (Cond.fieldLink (mCn o) idx r.1 (r.2.1 k).2.1 (r.2.1 k).2.2.1 ∈ lw_G ∨ Cond.fieldLinkNest (mCn o) idx r.1 (r.2.1 k).2.1 (r.2.1 k).2.2.1 "CarryAlike" ∈ lw_tbl) := by
  have ho : o < mOwnN := by
    rcases Nat.lt_or_ge o mOwnN with q | q
    · exact q
    · rw [show mFt o = [] from mDef _ o q] at h; cases h
  have h1 := List.all_eq_true.mp (all_range mF_ok ho) _ (lk_mem h)
  unfold mFchk at h1
  dsimp only at h1
  split at h1
  · next r q e1 e2 =>
    simp only [Bool.and_eq_true, decide_eq_true_eq] at h1
    obtain ⟨⟨a1, a2⟩, a3⟩ := h1
    refine ⟨r, e1, a1, a2, ?_⟩
    by_cases hq : q.2 = true
    · rw [if_pos hq] at a3; exact Or.inr (List.mem_of_getElem? a3)
    · rw [if_neg hq] at a3; exact Or.inl (lw_in a3 rfl)
  · cases h1
theorem mM_get {o idx y : Nat} (h : lk (mMt o) idx = some y) : y < mCount ∧ (mNm y).cls ≠ "CarryAlikeLaw" ∧ (Cond.methodLink (mCn o) idx (mNm y) ∈ lw_G ∨ Cond.methodLinkNest (mCn o) idx (mNm y) "CarryAlike" ∈ lw_tbl) := by
  have ho : o < mOwnN := by
    rcases Nat.lt_or_ge o mOwnN with q | q
    · exact q
    · rw [show mMt o = [] from mDef _ o q] at h; cases h
  have h1 := List.all_eq_true.mp (all_range mM_ok ho) _ (lk_mem h)
  unfold mMchk at h1
  dsimp only at h1
  split at h1
  · next q e1 =>
    simp only [Bool.and_eq_true, decide_eq_true_eq] at h1
    obtain ⟨⟨a1, a2⟩, a3⟩ := h1
    refine ⟨a1, a2, ?_⟩
    by_cases hq : q.2 = true
    · rw [if_pos hq] at a3; exact Or.inr (List.mem_of_getElem? a3)
    · rw [if_neg hq] at a3; exact Or.inl (lw_in a3 rfl)
  · cases h1
theorem mY_get {y : Nat} (hy : y < mCount) (hl : (mNm y).cls ≠ "CarryAlikeLaw") : Cond.code (mNm y) (mCd y) (mMx y) (mRt y) ∈ lw_G ∧ Cond.initialized (mNm y).cls ∈ lw_G ∧ (mSta y = true → Cond.static (mNm y) ∈ lw_G) ∧ (mSta y = false → Cond.instanceMethod (mNm y) ∈ lw_G) ∧ (mSta y = false → mIni y = false → Cond.selects (mNm y).cls (mNm y) (mNm y) ∈ lw_G) ∧ ((mNm y).cls ≠ "java/lang/invoke/MethodHandle" ∧ (mNm y).cls ≠ "java/lang/invoke/VarHandle" ∧ (parseMethodDescriptor (mNm y).desc).map (fun d => d.parameters.length) = some (mNp y)) ∧ plainName (mNm y).cls = true ∧ mCn (mOwn y) = (mNm y).cls ∧ (mIni y = true → (mNm y).name = "<init>" ∧ mRt y = none) := by
  have h := all_range mY_ok hy
  unfold mYchk at h
  rw [decide_eq_false hl, Bool.false_or] at h
  simp only [Bool.and_eq_true, decide_eq_true_eq] at h
  obtain ⟨⟨⟨⟨⟨⟨⟨⟨⟨a2, a3⟩, a4⟩, a5⟩, a6⟩, a7⟩, a8⟩, a9⟩, a10⟩, a11⟩ := h
  have a0 := all_range mYcL_ok hy
  rw [decide_eq_false hl, Bool.false_or, decide_eq_true_eq] at a0
  have a1 : lw_tbl[(mPos y).1]? = some (.code (mNm y) (mCd y) (mMx y) (mRt y)) := mYc_all y a0
  refine ⟨lw_in a1 rfl, lw_in a2 rfl, fun e => ?_, fun e => ?_, fun e1 e2 => ?_, ⟨a5, a6, a7⟩, (by rw [← a9]; exact mPl _ a8), a9, fun e => ?_⟩
  · rw [if_pos e] at a3; exact lw_in a3 rfl
  · rw [if_neg (by rw [e]; decide)] at a3; exact lw_in a3 rfl
  · rw [e1, e2, Bool.false_or, Bool.false_or, decide_eq_true_eq] at a4; exact lw_in a4 rfl
  · rw [e] at a10 a11
    simp at a10 a11
    exact ⟨a10, a11⟩
theorem mC_get {o idx ci : Nat} (h : lk (mCt o) idx = some ci) : ∃ r, vwCl[ci]? = some r ∧ Cond.classLink (mCn o) idx r.1 ∈ lw_G := by
  have ho : o < mOwnN := by
    rcases Nat.lt_or_ge o mOwnN with q | q
    · exact q
    · rw [show mCt o = [] from mDef _ o q] at h; cases h
  have h1 := List.all_eq_true.mp (all_range mC_ok ho) _ (lk_mem h)
  unfold mCchk at h1
  dsimp only at h1
  split at h1
  · next r q e1 e2 =>
    rw [decide_eq_true_eq] at h1
    exact ⟨r, e1, lw_in h1 rfl⟩
  · cases h1
theorem mK_get {o idx : Nat} {v : Int32 ⊕ Int64} (h : lk (mKt o) idx = some v) : (match v with | .inl v => Cond.constant (mCn o) idx v | .inr v => Cond.constantLong (mCn o) idx v) ∈ lw_G := by
  have ho : o < mOwnN := by
    rcases Nat.lt_or_ge o mOwnN with q | q
    · exact q
    · rw [show mKt o = [] from mDef _ o q] at h; cases h
  have h1 := List.all_eq_true.mp (all_range mK_ok ho) _ (lk_mem h)
  unfold mKchk at h1
  dsimp only at h1
  split at h1
  · next q e1 =>
    rw [decide_eq_true_eq] at h1
    cases v with
    | inl v => exact lw_in h1 rfl
    | inr v => exact lw_in h1 rfl
  · cases h1
theorem mAny_get {l : List (Nat × Nat)} {i : Nat} (h : (l.any fun q => q.1 == i) = true) : ∃ p, (i, p) ∈ l := by
  obtain ⟨q, hq, he⟩ := List.any_eq_true.mp h
  exact ⟨q.2, by rw [← eq_of_beq he]; exact hq⟩
theorem mA_get {o idx : Nat} (h : mAt o idx = true) : Cond.classLink (mCn o) idx "CarryAlike$Walker" ∈ lw_G := by
  obtain ⟨p, hp⟩ := mAny_get h
  have ho : o < mOwnN := by
    rcases Nat.lt_or_ge o mOwnN with q | q
    · exact q
    · rw [show mAq o = [] from mDef _ o q] at hp; cases hp
  have h1 := List.all_eq_true.mp (all_range mA_ok ho) _ hp
  unfold mAchk at h1
  rw [decide_eq_true_eq] at h1
  exact lw_in h1 rfl
theorem mO_get {o idx : Nat} (h : mOt o idx = true) : Cond.methodLink (mCn o) idx Lib.objectInit ∈ lw_G := by
  obtain ⟨p, hp⟩ := mAny_get h
  have ho : o < mOwnN := by
    rcases Nat.lt_or_ge o mOwnN with q | q
    · exact q
    · rw [show mOq o = [] from mDef _ o q] at hp; cases hp
  have h1 := List.all_eq_true.mp (all_range mN_ok ho) _ hp
  unfold mNchk at h1
  rw [decide_eq_true_eq] at h1
  exact lw_in h1 rfl
theorem mN_get {o idx : Nat} (h : mNt o idx = true) : Cond.methodLink (mCn o) idx arraycopyName ∈ lw_G := by
  obtain ⟨p, hp⟩ := mAny_get h
  have ho : o < mOwnN := by
    rcases Nat.lt_or_ge o mOwnN with q | q
    · exact q
    · rw [show mNq o = [] from mDef _ o q] at hp; cases hp
  have h1 := List.all_eq_true.mp (all_range mAc_ok ho) _ hp
  unfold mAcchk at h1
  rw [decide_eq_true_eq] at h1
  exact lw_in h1 rfl
theorem mX_get {o idx : Nat} {q : Nat × Bool} (h : lk (mXq o) idx = some q) : Cond.methodLink (mCn o) idx (if q.2 = true then Lib.Math.max.name else Lib.Math.min.name) ∈ lw_G := by
  have ho : o < mOwnN := by
    rcases Nat.lt_or_ge o mOwnN with z | z
    · exact z
    · rw [show mXq o = [] from mDef _ o z] at h; cases h
  have h1 := List.all_eq_true.mp (all_range mX_ok ho) _ (lk_mem h)
  unfold mXchk at h1
  rw [decide_eq_true_eq] at h1
  exact lw_in h1 rfl
/-- a class by its number -/
theorem mL_get {ci : Nat} {r : vw_C} (h : vwCl[ci]? = some r) : Cond.instantiable r.1 r.2.2 ∈ lw_G ∧ Cond.initialized r.1 ∈ lw_G ∧ (∀ w ∈ u_ws r.1 r.2.1 r.2.2, w ∈ lw_G) ∧ (∀ k, k < r.2.2 → (parseFieldDescriptor (r.2.1 k).2.2.1).isSome = true) ∧ (∀ a, a < r.2.2 → ∀ b, b < r.2.2 → a ≠ b → (r.2.1 a).2.1 ≠ (r.2.1 b).2.1) ∧ mCn ci = r.1 := by
  have hlt : ci < vwCl.length := (List.getElem?_eq_some_iff.mp h).1
  have h1 := all_range mL_ok hlt
  rw [h] at h1
  dsimp only at h1
  unfold mLchk at h1
  split at h1
  · next q e1 =>
    simp only [Bool.and_eq_true, decide_eq_true_eq] at h1
    obtain ⟨⟨⟨a1, a2⟩, a3⟩, a4⟩ := h1
    have key : ∀ k, k < r.2.2 → _ := fun k hk => all_range a3 hk
    simp only [Bool.and_eq_true, decide_eq_true_eq] at key
    refine ⟨lw_in a1 rfl, lw_in a2 rfl, fun w hw => ?_, fun k hk => (key k hk).1.2, fun a ha b hb hne => ?_, a4⟩
    · obtain ⟨k, hk, rfl⟩ := List.mem_map.mp hw
      refine lw_in (key k (List.mem_range.mp hk)).1.1 ?_
      unfold u_lay
      split <;> rfl
    · have := all_range (key b hb).2 ha
      simp only [Bool.or_eq_true, decide_eq_true_eq] at this
      exact this.resolve_left hne
  · cases h1
end
section
/-! A small machine over pictures of cells: the instructions that this claim's code holds, as a function; what it says is shown of the bytes in a later part. A reference is a number of a cell; the script is a cell of its own. -/
abbrev mC : Type := (Nat × Nat × ((Nat → Int32) ⊕ List (Option Nat))) ⊕ (Nat × List Value)
abbrev mH : Type := List mC
abbrev mL : Type := List (Option Value)
abbrev mX : Type := Nat × (Nat → Int32)
def mSid : Nat := 1000000
def inb (i : Int32) (n : Nat) : Bool := !(decide (i < 0)) && decide (i.toNatClampNeg < n)
/-- the heap's ways: getf, putf, ald, ast, alen, new, newarr, copy, class -/
abbrev mO (σ : Type) : Type := (σ → Nat → Nat → Nat → Option Value) × (σ → Nat → Nat → Nat → Value → Option σ) × (σ → Nat → Nat → Int32 → Option Value) × (σ → Nat → Nat → Int32 → Value → Option σ) × (σ → Nat → Option Int32) × (σ → Nat → Option (σ × Nat)) × (σ → Nat → Int32 → Option (σ × Nat)) × (σ → Nat → Int32 → Nat → Int32 → Int32 → Option σ) × (σ → Nat → Option Nat)
def mO.gf {σ : Type} (O : mO σ) : σ → Nat → Nat → Nat → Option Value := O.1
def mO.pf {σ : Type} (O : mO σ) : σ → Nat → Nat → Nat → Value → Option σ := O.2.1
def mO.ld {σ : Type} (O : mO σ) : σ → Nat → Nat → Int32 → Option Value := O.2.2.1
def mO.st {σ : Type} (O : mO σ) : σ → Nat → Nat → Int32 → Value → Option σ := O.2.2.2.1
def mO.ln {σ : Type} (O : mO σ) : σ → Nat → Option Int32 := O.2.2.2.2.1
def mO.nw {σ : Type} (O : mO σ) : σ → Nat → Option (σ × Nat) := O.2.2.2.2.2.1
def mO.na {σ : Type} (O : mO σ) : σ → Nat → Int32 → Option (σ × Nat) := O.2.2.2.2.2.2.1
def mO.cp {σ : Type} (O : mO σ) : σ → Nat → Int32 → Nat → Int32 → Int32 → Option σ := O.2.2.2.2.2.2.2.1
def mO.cl {σ : Type} (O : mO σ) : σ → Nat → Option Nat := O.2.2.2.2.2.2.2.2
abbrev mR (σ : Type) : Type := (Nat × mL × List Value × σ) ⊕ ((Option Value × σ) ⊕ (Nat × List Value × Nat × mL × List Value × σ))
/-- locals -/
def mKill (l : mL) (i : Nat) : mL := match l[i]? with
  | some (some (.long _)) => l.set i none
  | some (some (.double _)) => l.set i none
  | _ => l
def mSt1 (l : mL) (i : Nat) (v : Value) : mL := match i with
  | 0 => l.set 0 (some v)
  | j + 1 => (mKill l j).set (j + 1) (some v)
def mSt2 (l : mL) (i : Nat) (v : Value) : mL := (mSt1 l i v).set (i + 1) none
def mEn : List Value → mL
  | [] => []
  | v :: r => if v.category = 2 then some v :: none :: mEn r else some v :: mEn r
def mEnt (as : List Value) (n : Nat) : mL := mEn as ++ List.replicate (n - (mEn as).length) none
def mZ : mL → List Bool → mL
  | o :: r, b :: bs => (if b then o else none) :: mZ r bs
  | r, [] => r
  | [], _ => []
def mM (y pc : Nat) (l : mL) : mL := match lk (mMsk y) pc with
  | none => l
  | some bs => mZ l bs
section MACH
variable {σ : Type}
def mGo (L len pc : Nat) (l : mL) (st : List Value) (h : σ) : Option (mR σ) := if len = L then some (.inl (pc + L, l, st, h)) else none
def mLd (L len pc : Nat) (l : mL) (i : Nat) (st : List Value) (h : σ) (ok : Value → Bool) : Option (mR σ) := match l[i]? with
  | some (some v) => if ok v then mGo L len pc l (v :: st) h else none
  | _ => none
def mStI (L len pc : Nat) (l : mL) (i : Nat) (st : List Value) (h : σ) : Option (mR σ) := match st with
  | .int x :: r => if i < l.length then mGo L len pc (mSt1 l i (.int x)) r h else none
  | _ => none
def mStA (L len pc : Nat) (l : mL) (i : Nat) (st : List Value) (h : σ) : Option (mR σ) := match st with
  | .ref x :: r => if i < l.length then mGo L len pc (mSt1 l i (.ref x)) r h else none
  | .null :: r => if i < l.length then mGo L len pc (mSt1 l i .null) r h else none
  | _ => none
def mStL (L len pc : Nat) (l : mL) (i : Nat) (st : List Value) (h : σ) : Option (mR σ) := match st with
  | .long x :: r => if i + 1 < l.length then mGo L len pc (mSt2 l i (.long x)) r h else none
  | _ => none
def isI : Value → Bool
  | .int _ => true
  | _ => false
def isL : Value → Bool
  | .long _ => true
  | _ => false
def isA : Value → Bool
  | .ref _ => true
  | .null => true
  | _ => false
def mI1 (len pc : Nat) (l : mL) (st : List Value) (h : σ) (f : Int32 → Value) : Option (mR σ) := match st with
  | .int x :: r => mGo 1 len pc l (f x :: r) h
  | _ => none
def mL1 (len pc : Nat) (l : mL) (st : List Value) (h : σ) (f : Int64 → Value) : Option (mR σ) := match st with
  | .long x :: r => mGo 1 len pc l (f x :: r) h
  | _ => none
def mII (len pc : Nat) (l : mL) (st : List Value) (h : σ) (f : Int32 → Int32 → Int32) : Option (mR σ) := match st with
  | .int y :: .int x :: r => mGo 1 len pc l (.int (f x y) :: r) h
  | _ => none
def mIZ (len pc : Nat) (l : mL) (st : List Value) (h : σ) (f : Int32 → Int32 → Int32) : Option (mR σ) := match st with
  | .int y :: .int x :: r => if y = 0 then none else mGo 1 len pc l (.int (f x y) :: r) h
  | _ => none
def mLL (len pc : Nat) (l : mL) (st : List Value) (h : σ) (f : Int64 → Int64 → Value) : Option (mR σ) := match st with
  | .long y :: .long x :: r => mGo 1 len pc l (f x y :: r) h
  | _ => none
def mLZ (len pc : Nat) (l : mL) (st : List Value) (h : σ) (f : Int64 → Int64 → Value) : Option (mR σ) := match st with
  | .long y :: .long x :: r => if y = 0 then none else mGo 1 len pc l (f x y :: r) h
  | _ => none
def mLI (len pc : Nat) (l : mL) (st : List Value) (h : σ) (f : Int64 → Int32 → Int64) : Option (mR σ) := match st with
  | .int y :: .long x :: r => mGo 1 len pc l (.long (f x y) :: r) h
  | _ => none
def mTg (pc : Nat) (off : Int) : Option Nat := if (0 : Int) ≤ (pc : Int) + off then some ((pc : Int) + off).toNat else none
def mJp (len pc : Nat) (l : mL) (st : List Value) (h : σ) (c : Bool) (off : Int) : Option (mR σ) := if len = 3 then (match mTg pc off with
  | some t => some (.inl (if c then t else pc + 3, l, st, h))
  | none => none) else none
def mCb (c : ClassFile.Cond) (x y : Int32) : Bool := match c with
  | .eq => decide (x = y)
  | .ne => decide (¬ x = y)
  | .lt => decide (x < y)
  | .ge => decide (y ≤ x)
  | .gt => decide (y < x)
  | .le => decide (x ≤ y)
def mIf (c : ClassFile.Cond) (len pc : Nat) (l : mL) (st : List Value) (h : σ) (off : Int) : Option (mR σ) := match st with
  | .int x :: r => mJp len pc l r h (mCb c x 0) off
  | _ => none
def mIc (c : ClassFile.Cond) (len pc : Nat) (l : mL) (st : List Value) (h : σ) (off : Int) : Option (mR σ) := match st with
  | .int y :: .int x :: r => mJp len pc l r h (mCb c x y) off
  | _ => none
def mNl (w : Bool) (len pc : Nat) (l : mL) (st : List Value) (h : σ) (off : Int) : Option (mR σ) := match st with
  | .null :: r => mJp len pc l r h w off
  | .ref _ :: r => mJp len pc l r h (!w) off
  | _ => none
def mSo (dflt lo hi : Int) (offs : Array Int) (x : Int32) : Option Int := if x.toInt < lo ∨ hi < x.toInt then some dflt else offs[(x.toInt - lo).toNat]?
def mSw (pc : Nat) (l : mL) (st : List Value) (h : σ) (dflt lo hi : Int) (offs : Array Int) : Option (mR σ) := match st with
  | .int x :: r => (match mSo dflt lo hi offs x with
    | some off => (match mTg pc off with
      | some t => some (.inl (t, l, r, h))
      | none => none)
    | none => none)
  | _ => none
def mAl (O : mO σ) (X : mX) (k len pc : Nat) (l : mL) (st : List Value) (h : σ) : Option (mR σ) := match st with
  | .int i :: .ref a :: r => if a = mSid then (if k = 0 ∧ inb i (X.1 - 1) = true then mGo 1 len pc l (.int (X.2 i.toNatClampNeg) :: r) h else none) else (match O.ld h a k i with
    | some v => mGo 1 len pc l (v :: r) h
    | none => none)
  | _ => none
def mAs (O : mO σ) (k len pc : Nat) (l : mL) (st : List Value) (h : σ) : Option (mR σ) := match st with
  | v :: .int i :: .ref a :: r => (match O.st h a k i v with
    | some h1 => mGo 1 len pc l r h1
    | none => none)
  | _ => none
def mAn (O : mO σ) (X : mX) (len pc : Nat) (l : mL) (st : List Value) (h : σ) : Option (mR σ) := match st with
  | .ref a :: r => if a = mSid then (if X.1 = 0 then none else mGo 1 len pc l (.int (Int32.ofNat (X.1 - 1)) :: r) h) else (match O.ln h a with
    | some v => mGo 1 len pc l (.int v :: r) h
    | none => none)
  | _ => none
def mNa (O : mO σ) (L t len pc : Nat) (l : mL) (st : List Value) (h : σ) : Option (mR σ) := match st with
  | .int n :: r => (match O.na h t n with
    | some q => mGo L len pc l (.ref q.2 :: r) q.1
    | none => none)
  | _ => none
def mGf (O : mO σ) (y len pc : Nat) (l : mL) (st : List Value) (h : σ) (idx : Nat) : Option (mR σ) := match st with
  | .ref a :: r => (match lk (mFt (mOwn y)) idx with
    | some q => (match O.gf h a q.1 q.2 with
      | some v => mGo 3 len pc l (v :: r) h
      | none => none)
    | none => none)
  | _ => none
def mPf (O : mO σ) (y len pc : Nat) (l : mL) (st : List Value) (h : σ) (idx : Nat) : Option (mR σ) := match st with
  | v :: .ref a :: r => (match lk (mFt (mOwn y)) idx with
    | some q => if mFin q.1 q.2 && !(mIni y && (mOwn y == q.1)) then none else (match O.pf h a q.1 q.2 v with
      | some h1 => mGo 3 len pc l r h1
      | none => none)
    | none => none)
  | _ => none
def mNw (O : mO σ) (y len pc : Nat) (l : mL) (st : List Value) (h : σ) (idx : Nat) : Option (mR σ) := match lk (mCt (mOwn y)) idx with
  | some ci => (match O.nw h ci with
    | some q => mGo 3 len pc l (.ref q.2 :: st) q.1
    | none => none)
  | none => none
def mCs (L len y pc : Nat) (l : mL) (st : List Value) (h : σ) (idx : Nat) (w : Bool) : Option (mR σ) := match lk (mKt (mOwn y)) idx with
  | some (.inl v) => if w then none else mGo L len pc l (.int v :: st) h
  | some (.inr v) => if w then mGo L len pc l (.long v :: st) h else none
  | none => none
def mSm (rest : List Value) : Bool := decide ((rest.map fun v => v.category).sum ≤ 8)
def mCv (O : mO σ) (sp : Bool) (y len pc : Nat) (l : mL) (st : List Value) (h : σ) (idx : Nat) : Option (mR σ) := match lk (mMt (mOwn y)) idx with
  | some y1 => (match st.drop (mNp y1) with
    | .ref a :: rest => if len = 3 ∧ mNp y1 ≤ st.length ∧ mSm rest = true ∧ (mIni y1 == sp && !mSta y1) = true ∧ (sp || O.cl h a == some (mOwn y1)) = true ∧ (mEn (.ref a :: (st.take (mNp y1)).reverse)).length ≤ mMx y1 ∧ mRm y y1 = true then some (.inr (.inr (y1, .ref a :: (st.take (mNp y1)).reverse, pc + 3, l, rest, h))) else none
    | _ => none)
  | none => if sp && mOt (mOwn y) idx && mRo1 y then (match st with
    | .ref _ :: rest => if mSm rest = true then mGo 3 len pc l rest h else none
    | _ => none) else none
def mCi (O : mO σ) (y len pc : Nat) (l : mL) (st : List Value) (h : σ) (idx : Nat) : Option (mR σ) := match lk (mMt (mOwn y)) idx with
  | some y1 => if len = 3 ∧ mNp y1 ≤ st.length ∧ mSm (st.drop (mNp y1)) = true ∧ mSta y1 = true ∧ (mEn ((st.take (mNp y1)).reverse)).length ≤ mMx y1 ∧ mRm y y1 = true then some (.inr (.inr (y1, (st.take (mNp y1)).reverse, pc + 3, l, st.drop (mNp y1), h))) else none
  | none => match lk (mXq (mOwn y)) idx with
    | some q => if mRx y then (match st with
      | .int w :: .int v :: rest => if mSm rest = true then mGo 3 len pc l (.int (if q.2 = true then (if v < w then w else v) else (if w < v then w else v)) :: rest) h else none
      | _ => none) else none
    | none => if mNt (mOwn y) idx && mRn y then (match st with
    | .int n :: .int dp :: .ref a :: .int sp :: .ref a0 :: rest => if mSm rest = true then (match O.cp h a0 sp a dp n with
      | some h1 => mGo 3 len pc l rest h1
      | none => none) else none
    | _ => none) else none
def mRo (ty : Option FieldType) (v : Int32) : Bool := match ty with
  | some .int => true
  | some .boolean => decide (v = 0) || decide (v = 1)
  | some .char => inb v 65536
  | _ => false
def mRa (ty : Option FieldType) : Bool := match ty with
  | some (.object _) => true
  | some (.array _) => true
  | _ => false
def mIns (O : mO σ) (X : mX) (y pc len : Nat) (l : mL) (st : List Value) (h : σ) : Instr → Option (mR σ)
  | .iconst n => mGo 1 len pc l (.int (Int32.ofInt n) :: st) h
  | .bipush n => mGo 2 len pc l (.int (Int8.ofInt n).toInt32 :: st) h
  | .sipush n => mGo 3 len pc l (.int (Int16.ofInt n).toInt32 :: st) h
  | .lconst n => mGo 1 len pc l (.long (Int64.ofNat (n : Nat)) :: st) h
  | .aconst_null => mGo 1 len pc l (.null :: st) h
  | .ldc i => mCs 2 len y pc l st h i false
  | .ldc_w i => mCs 3 len y pc l st h i false
  | .ldc2_w i => mCs 3 len y pc l st h i true
  | .iload_n k => mLd 1 len pc l k st h isI
  | .iload i => mLd 2 len pc l i st h isI
  | .lload_n k => mLd 1 len pc l k st h isL
  | .lload i => mLd 2 len pc l i st h isL
  | .aload_n k => mLd 1 len pc l k st h isA
  | .aload i => mLd 2 len pc l i st h isA
  | .istore_n k => mStI 1 len pc l k st h
  | .istore i => mStI 2 len pc l i st h
  | .lstore_n k => mStL 1 len pc l k st h
  | .lstore i => mStL 2 len pc l i st h
  | .astore_n k => mStA 1 len pc l k st h
  | .astore i => mStA 2 len pc l i st h
  | .iinc i n => (match l[i]? with
    | some (some (.int x)) => mGo 3 len pc (mSt1 l i (.int (x + Int32.ofInt n))) st h
    | _ => none)
  | .iadd => mII len pc l st h (fun x y => x + y)
  | .isub => mII len pc l st h (fun x y => x - y)
  | .imul => mII len pc l st h (fun x y => x * y)
  | .iand => mII len pc l st h (fun x y => x &&& y)
  | .ior => mII len pc l st h (fun x y => x ||| y)
  | .ixor => mII len pc l st h (fun x y => x ^^^ y)
  | .ishl => mII len pc l st h (fun x y => x <<< (y &&& 31))
  | .ishr => mII len pc l st h (fun x y => x >>> (y &&& 31))
  | .iushr => mII len pc l st h (fun x y => (x.toUInt32 >>> (y.toUInt32 &&& Int32.toUInt32 31)).toInt32)
  | .idiv => mIZ len pc l st h (fun x y => x / y)
  | .irem => mIZ len pc l st h (fun x y => x - x / y * y)
  | .ineg => mI1 len pc l st h (fun x => .int (-x))
  | .ladd => mLL len pc l st h (fun x y => .long (x + y))
  | .lsub => mLL len pc l st h (fun x y => .long (x - y))
  | .lmul => mLL len pc l st h (fun x y => .long (x * y))
  | .land => mLL len pc l st h (fun x y => .long (x &&& y))
  | .lor => mLL len pc l st h (fun x y => .long (x ||| y))
  | .lcmp => mLL len pc l st h (fun x y => .int (lg_cmp x y))
  | .ldiv => mLZ len pc l st h (fun x y => .long (x / y))
  | .lrem => mLZ len pc l st h (fun x y => .long (x - x / y * y))
  | .lshl => mLI len pc l st h (fun x y => x <<< (y.toInt64 &&& 63))
  | .lshr => mLI len pc l st h (fun x y => x >>> (y.toInt64 &&& 63))
  | .lushr => mLI len pc l st h (fun x y => (x.toUInt64 >>> (y.toInt64.toUInt64 &&& Int64.toUInt64 63)).toInt64)
  | .i2l => mI1 len pc l st h (fun x => .long x.toInt64)
  | .i2b => mI1 len pc l st h (fun x => .int x.toInt8.toInt32)
  | .i2c => mI1 len pc l st h (fun x => .int (x.toUInt32 % 65536).toInt32)
  | .l2i => mL1 len pc l st h (fun x => .int x.toInt32)
  | .dup => (match st with
    | v :: r => if v.category = 1 then mGo 1 len pc l (v :: v :: r) h else none
    | _ => none)
  | .dup2 => (match st with
    | v :: w :: r => if v.category = 1 ∧ w.category = 1 then mGo 1 len pc l (v :: w :: v :: w :: r) h else none
    | _ => none)
  | .pop => (match st with
    | v :: r => if v.category = 1 then mGo 1 len pc l r h else none
    | _ => none)
  | .ifCond c off => mIf c len pc l st h off
  | .if_icmp c off => mIc c len pc l st h off
  | .ifnull off => mNl true len pc l st h off
  | .ifnonnull off => mNl false len pc l st h off
  | .goto off => mJp len pc l st h true off
  | .tableswitch d lo hi os => mSw pc l st h d lo hi os
  | .iaload => mAl O X 0 len pc l st h
  | .baload => mAl O X 1 len pc l st h
  | .caload => mAl O X 2 len pc l st h
  | .aaload => mAl O X 3 len pc l st h
  | .iastore => mAs O 0 len pc l st h
  | .bastore => mAs O 1 len pc l st h
  | .castore => mAs O 2 len pc l st h
  | .aastore => mAs O 3 len pc l st h
  | .arraylength => mAn O X len pc l st h
  | .newarray .int => mNa O 2 0 len pc l st h
  | .newarray .boolean => mNa O 2 1 len pc l st h
  | .newarray .char => mNa O 2 2 len pc l st h
  | .newarray .byte => mNa O 2 3 len pc l st h
  | .anewarray i => if mAt (mOwn y) i then mNa O 3 4 len pc l st h else none
  | .getfield i => mGf O y len pc l st h i
  | .putfield i => mPf O y len pc l st h i
  | .new i => mNw O y len pc l st h i
  | .invokevirtual i => mCv O false y len pc l st h i
  | .invokespecial i => mCv O true y len pc l st h i
  | .invokestatic i => mCi O y len pc l st h i
  | .ireturn => (match st with
    | [.int v] => if len = 1 ∧ mRo (mRt y) v = true then some (.inr (.inl (some (.int v), h))) else none
    | _ => none)
  | .lreturn => (match st with
    | [.long v] => if len = 1 ∧ mRt y = some .long then some (.inr (.inl (some (.long v), h))) else none
    | _ => none)
  | .areturn => (match st with
    | [.ref v] => if len = 1 ∧ mRa (mRt y) = true then some (.inr (.inl (some (.ref v), h))) else none
    | [.null] => if len = 1 ∧ mRa (mRt y) = true then some (.inr (.inl (some .null, h))) else none
    | _ => none)
  | .return_ => (match st with
    | [] => if len = 1 ∧ mRt y = none then some (.inr (.inl (none, h))) else none
    | _ => none)
  | _ => none
def mStep (O : mO σ) (X : mX) (y pc : Nat) (l : mL) (st : List Value) (h : σ) : Option (mR σ) := match decode (mCd y) pc with
  | .ok (i, len) => mIns O X y pc len l st h i
  | .error _ => none
def mRun (O : mO σ) (X : mX) : Nat → Nat → Nat → mL → List Value → σ → Option (Option Value × σ)
  | 0, _, _, _, _, _ => none
  | n + 1, y, pc, l, st, h => match mStep O X y pc (mM y pc l) st h with
    | none => none
    | some (.inl (pc1, l1, st1, h1)) => mRun O X n y pc1 l1 st1 h1
    | some (.inr (.inl r)) => some r
    | some (.inr (.inr (y1, as, pc1, l1, st1, h1))) => match mRun O X n y1 0 (mEnt as (mMx y1)) [] h1 with
      | none => none
      | some (v, h2) => mRun O X n y pc1 l1 (v.toList ++ st1) h2
theorem mRun_mono (O : mO σ) (X : mX) : ∀ (n y pc : Nat) (l : mL) (st : List Value) (h : σ) (r : Option Value × σ), mRun O X n y pc l st h = some r → mRun O X (n + 1) y pc l st h = some r := by
  intro n
  induction n with
  | zero => intro y pc l st h r hr; simp [mRun] at hr
  | succ n ih =>
    intro y pc l st h r hr
    rw [mRun] at hr ⊢
    cases hs : mStep O X y pc (mM y pc l) st h with
    | none => rw [hs] at hr; simp at hr
    | some q =>
      rw [hs] at hr
      rcases q with ⟨pc1, l1, st1, h1⟩ | q | ⟨y1, as, pc1, l1, st1, h1⟩
      · exact ih _ _ _ _ _ _ hr
      · exact hr
      · dsimp only at hr ⊢
        cases hc : mRun O X n y1 0 (mEnt as (mMx y1)) [] h1 with
        | none => rw [hc] at hr; simp at hr
        | some v =>
          rw [hc] at hr
          rw [ih _ _ _ _ _ _ hc]
          exact ih _ _ _ _ _ _ hr
theorem mRun_le (O : mO σ) (X : mX) {n m : Nat} (hnm : n ≤ m) {y pc : Nat} {l : mL} {st : List Value} {h : σ} {r : Option Value × σ} (hr : mRun O X n y pc l st h = some r) : mRun O X m y pc l st h = some r := by
  induction hnm with
  | refl => exact hr
  | step _ ih => exact mRun_mono O X _ _ _ _ _ _ _ ih
noncomputable def mV (O : mO σ) (X : mX) (y pc : Nat) (l : mL) (st : List Value) (h : σ) : Option (Option Value × σ) :=
  @dite _ (∃ r, ∃ n, mRun O X n y pc l st h = some r) (Classical.propDecidable _) (fun hx => some (Classical.choose hx)) (fun _ => none)
theorem mV_iff (O : mO σ) (X : mX) (y pc : Nat) (l : mL) (st : List Value) (h : σ) (r : Option Value × σ) : mV O X y pc l st h = some r ↔ ∃ n, mRun O X n y pc l st h = some r := by
  unfold mV
  constructor
  · intro hr
    split at hr
    · next hx =>
      obtain ⟨n, hn⟩ := Classical.choose_spec hx
      cases hr
      exact ⟨n, hn⟩
    · cases hr
  · rintro ⟨n, hn⟩
    have hx : ∃ r, ∃ n, mRun O X n y pc l st h = some r := ⟨r, n, hn⟩
    rw [dif_pos hx]
    obtain ⟨k, hk⟩ := Classical.choose_spec hx
    have h1 := mRun_le O X (Nat.le_max_left n k) hn
    have h2 := mRun_le O X (Nat.le_max_right n k) hk
    rw [h1] at h2
    exact h2.symm
theorem mV_unf (O : mO σ) (X : mX) (y pc : Nat) (l : mL) (st : List Value) (h : σ) : mV O X y pc l st h = match mStep O X y pc (mM y pc l) st h with
    | none => none
    | some (.inl (pc1, l1, st1, h1)) => mV O X y pc1 l1 st1 h1
    | some (.inr (.inl r)) => some r
    | some (.inr (.inr (y1, as, pc1, l1, st1, h1))) => (mV O X y1 0 (mEnt as (mMx y1)) [] h1).bind fun q => mV O X y pc1 l1 (q.1.toList ++ st1) q.2 := by
  apply Option.ext
  intro r
  rw [mV_iff]
  cases hs : mStep O X y pc (mM y pc l) st h with
  | none =>
    refine ⟨fun ⟨n, hn⟩ => ?_, fun hr => by cases hr⟩
    cases n with
    | zero => simp [mRun] at hn
    | succ n => rw [mRun, hs] at hn; cases hn
  | some q =>
    rcases q with ⟨pc1, l1, st1, h1⟩ | q | ⟨y1, as, pc1, l1, st1, h1⟩
    · dsimp only
      rw [mV_iff]
      refine ⟨fun ⟨n, hn⟩ => ?_, fun ⟨n, hn⟩ => ⟨n + 1, by rw [mRun, hs]; exact hn⟩⟩
      cases n with
      | zero => simp [mRun] at hn
      | succ n => rw [mRun, hs] at hn; exact ⟨n, hn⟩
    · dsimp only
      refine ⟨fun ⟨n, hn⟩ => ?_, fun hr => ⟨1, by rw [mRun, hs]; exact hr⟩⟩
      cases n with
      | zero => simp [mRun] at hn
      | succ n => rw [mRun, hs] at hn; exact hn
    · dsimp only
      constructor
      · rintro ⟨n, hn⟩
        cases n with
        | zero => simp [mRun] at hn
        | succ n =>
          rw [mRun, hs] at hn
          dsimp only at hn
          cases hc : mRun O X n y1 0 (mEnt as (mMx y1)) [] h1 with
          | none => rw [hc] at hn; cases hn
          | some v =>
            rw [hc] at hn
            rw [(mV_iff O X _ _ _ _ _ v).mpr ⟨n, hc⟩]
            exact (mV_iff O X _ _ _ _ _ r).mpr ⟨n, hn⟩
      · intro hr
        cases hc : mV O X y1 0 (mEnt as (mMx y1)) [] h1 with
        | none => rw [hc] at hr; cases hr
        | some v =>
          rw [hc] at hr
          obtain ⟨n1, e1⟩ := (mV_iff O X _ _ _ _ _ v).mp hc
          obtain ⟨n2, e2⟩ := (mV_iff O X _ _ _ _ _ r).mp hr
          refine ⟨max n1 n2 + 1, ?_⟩
          rw [mRun, hs]
          dsimp only
          rw [mRun_le O X (Nat.le_max_left n1 n2) e1]
          exact mRun_le O X (Nat.le_max_right n1 n2) e2
end MACH
end
section
/-! the heap as a list of cells, and what it stands for -/
/-- kinds of fields: 0 int, 1 boolean, 2 long, 3 a reference -/
def mFkL : List (List Nat) := [[3, 3, 3, 3, 3, 0, 0, 0, 3, 3], [3, 3, 3, 3, 3, 3, 3, 3, 0, 0, 2], [3, 3, 3, 0, 1, 1, 3, 3, 3], [3, 3, 3, 0, 1, 1, 0, 2], [3, 0], [3, 3, 3, 3, 0, 0, 0, 1, 1, 1, 0, 0, 0], [3, 0, 3, 0], [0, 0, 0, 0, 3, 0, 0], [3, 3, 3, 3, 3, 3, 3, 3, 1, 1, 0, 0], [0, 3, 3, 3, 1, 1, 0, 0, 3, 3, 3, 3, 3, 3, 3, 3, 0, 0, 0, 3, 0, 1, 0, 3, 3, 3, 1, 1, 3, 0, 0, 0, 3, 3, 3, 0, 0, 3, 3, 3, 0, 2, 1, 0, 0, 0, 3, 3, 3, 3, 3, 3, 2]]
def mFk (ci k : Nat) : Nat := (mFkL.getD ci []).getD k 9
def mWk : Nat := 7
theorem mWk_ok : (vwCl[mWk]?).map (fun r => r.1) = some "CarryAlike$Walker" := by decide +kernel
def mFkOk (ci k : Nat) (d : String) : Bool := match mFk ci k with
  | 0 => decide (parseFieldDescriptor d = some .int)
  | 1 => decide (parseFieldDescriptor d = some .boolean)
  | 2 => decide (parseFieldDescriptor d = some .long)
  | 3 => (match parseFieldDescriptor d with
    | some (.object _) => true
    | some (.array _) => true
    | _ => false)
  | _ => false
theorem mFk_ok : (List.range vwCl.length).all (fun ci => match vwCl[ci]? with
  | some r => (List.range r.2.2).all (fun k => mFkOk ci k (r.2.1 k).2.2.1)
  | none => false) = true := by decide +kernel
theorem mFk_get {ci k : Nat} {r : vw_C} (h : vwCl[ci]? = some r) (hk : k < r.2.2) : mFkOk ci k (r.2.1 k).2.2.1 = true := by
  have h1 := all_range mFk_ok (List.getElem?_eq_some_iff.mp h).1
  rw [h] at h1
  exact all_range h1 hk
def hOk (ci k : Nat) (v : Value) : Bool := match mFk ci k, v with
  | 0, .int _ => true
  | 1, .int x => decide (x = 0) || decide (x = 1)
  | 2, .long _ => true
  | 3, .ref _ => true
  | 3, .null => true
  | _, _ => false
def hGf (h : mH) (a ci k : Nat) : Option Value := match h[a]? with
  | some (.inr (c, fs)) => if c = ci then fs[k]? else none
  | _ => none
def hPf (h : mH) (a ci k : Nat) (v : Value) : Option mH := match h[a]? with
  | some (.inr (c, fs)) => if c = ci ∧ k < fs.length ∧ hOk ci k v = true then some (h.set a (.inr (c, fs.set k v))) else none
  | _ => none
def hKi (kind t : Nat) : Bool := (kind == 0 && t == 0) || (kind == 1 && (t == 1 || t == 3)) || (kind == 2 && t == 2)
def hNar (t : Nat) (x : Int32) : Int32 := match t with
  | 0 => x
  | 1 => vp_nar .boolean x
  | 2 => vp_nar .char x
  | _ => vp_nar .byte x
def hLd (h : mH) (a kind : Nat) (i : Int32) : Option Value := match h[a]? with
  | some (.inl (t, n, .inl f)) => if inb i n = true ∧ hKi kind t = true then some (.int (f i.toNatClampNeg)) else none
  | some (.inl (t, n, .inr g)) => if inb i n = true ∧ kind = 3 ∧ t = 4 then some (va_rf ((g[i.toNatClampNeg]?).join)) else none
  | _ => none
def hSt (h : mH) (a kind : Nat) (i : Int32) (v : Value) : Option mH := match h[a]?, v with
  | some (.inl (t, n, .inl f)), .int x => if inb i n = true ∧ hKi kind t = true then some (h.set a (.inl (t, n, .inl (upd f i.toNatClampNeg (hNar t x))))) else none
  | some (.inl (t, n, .inr g)), .ref b => if inb i n = true ∧ kind = 3 ∧ t = 4 ∧ i.toNatClampNeg < g.length then (match h[b]? with
    | some (.inr (c, _)) => if c = mWk then some (h.set a (.inl (t, n, .inr (g.set i.toNatClampNeg (some b))))) else none
    | _ => none) else none
  | _, _ => none
def hLn (h : mH) (a : Nat) : Option Int32 := match h[a]? with
  | some (.inl (t, n, _)) => if t < 5 then some (Int32.ofNat n) else none
  | _ => none
def hD1 (n : Nat) : Value := match n with
  | 0 => .int 0
  | 1 => .int 0
  | 2 => .long 0
  | _ => .null
def hDf (ci N : Nat) : List Value := (List.range N).map fun k => hD1 (mFk ci k)
def hNw (h : mH) (ci : Nat) : Option (mH × Nat) := match vwCl[ci]? with
  | some r => if h.length < 1000 then some (h ++ [.inr (ci, hDf ci r.2.2)], h.length) else none
  | none => none
def hNa (h : mH) (t : Nat) (n : Int32) : Option (mH × Nat) := if h.length < 1000 ∧ ¬ n < 0 ∧ n.toNatClampNeg ≤ 1000 ∧ t < 5 then some (h ++ [.inl (t, n.toNatClampNeg, if t = 4 then .inr (List.replicate n.toNatClampNeg none) else .inl (fun _ => 0))], h.length) else none
def hCp (h : mH) (a0 : Nat) (sp : Int32) (a : Nat) (dp n : Int32) : Option mH := match h[a0]?, h[a]? with
  | some (.inl (t0, n0, .inl f)), some (.inl (t1, n1, .inl g)) => if t0 = 0 ∧ t1 = 0 ∧ ¬ sp < 0 ∧ ¬ dp < 0 ∧ ¬ n < 0 ∧ sp.toNatClampNeg + n.toNatClampNeg ≤ n0 ∧ dp.toNatClampNeg + n.toNatClampNeg ≤ n1 then some (h.set a (.inl (t1, n1, .inl (va_cpy f g sp.toNatClampNeg dp.toNatClampNeg n.toNatClampNeg)))) else none
  | _, _ => none
def hCl (h : mH) (a : Nat) : Option Nat := match h[a]? with
  | some (.inr (c, _)) => some c
  | _ => none
def oH : mO mH := (hGf, hPf, hLd, hSt, hLn, hNw, hNa, hCp, hCl)
def hSz1 : mC → Nat
  | .inl (_, n, _) => n
  | .inr (_, fs) => fs.length
def hSz (h : mH) : Nat := (h.map hSz1).sum
theorem hSz_push (h : mH) (c : mC) : hSz (h ++ [c]) = hSz h + hSz1 c := by
  simp [hSz]
theorem hSz_set : ∀ (h : mH) (a : Nat) (c0 c : mC), h[a]? = some c0 → hSz1 c = hSz1 c0 → hSz (h.set a c) = hSz h
  | [], a, c0, c, h1, _ => by simp at h1
  | x :: r, 0, c0, c, h1, h2 => by
    simp at h1
    subst h1
    simp [hSz, h2]
  | x :: r, a + 1, c0, c, h1, h2 => by
    have ih := hSz_set r a c0 c (by simpa using h1) h2
    simp only [hSz, List.map_set] at ih
    simp [hSz, List.map_set, ih]
/-- what a picture stands for -/
def cAd (b base a : Nat) : Nat := if a = mSid then b else base + a
def cV (b base : Nat) : Value → Value
  | .ref a => .ref (cAd b base a)
  | v => v
def cE (b base : Nat) (tc : Nat → ClassId) : mC → va_E
  | .inl (t, n, .inl f) => .inl (tc t, n, .inl f)
  | .inl (t, n, .inr g) => .inl (tc t, n, .inr (.inr (.inr (.inr (fun j => ((g[j]?).join).map (cAd b base))))))
  | .inr (c, fs) => .inr (c, fs.map (cV b base))
def cW (b base : Nat) (tc : Nat → ClassId) (h : mH) : va_W := h.zipIdx.map fun q => (base + q.2, cE b base tc q.1)
theorem cW_get {b base : Nat} {tc : Nat → ClassId} {h : mH} {a : Nat} {c : mC} (e : h[a]? = some c) : (cW b base tc h)[a]? = some (base + a, cE b base tc c) := by
  simp [cW, List.getElem?_zipIdx, e]
theorem cW_inv {b base : Nat} {tc : Nat → ClassId} {h : mH} {a : Nat} {q : Nat × va_E} (e : (cW b base tc h)[a]? = some q) : ∃ c, h[a]? = some c ∧ q = (base + a, cE b base tc c) := by
  simp only [cW, List.getElem?_map, List.getElem?_zipIdx] at e
  cases hc : h[a]? with
  | none => rw [hc] at e; simp at e
  | some c => rw [hc] at e; simp at e; exact ⟨c, rfl, e.symm⟩
theorem cW_set {b base : Nat} {tc : Nat → ClassId} {h : mH} {a : Nat} {c c0 : mC} (e : h[a]? = some c0) : (cW b base tc h).set a (base + a, cE b base tc c) = cW b base tc (h.set a c) := by
  apply List.ext_getElem?
  intro i
  have hl : a < h.length := (List.getElem?_eq_some_iff.mp e).1
  have hlw : a < (cW b base tc h).length := (List.getElem?_eq_some_iff.mp (cW_get (b := b) (base := base) (tc := tc) e)).1
  by_cases hi : i = a
  · subst hi
    rw [List.getElem?_set_self hlw]
    exact (cW_get (by rw [List.getElem?_set_self hl])).symm
  · rw [List.getElem?_set_ne (Ne.symm hi)]
    simp [cW, List.getElem?_zipIdx, List.getElem?_set_ne (Ne.symm hi)]
theorem cW_push {b base : Nat} {tc : Nat → ClassId} {h : mH} {c : mC} : cW b base tc (h ++ [c]) = cW b base tc h ++ [(base + h.length, cE b base tc c)] := by
  simp [cW, List.zipIdx_append]
theorem cW_D {b base : Nat} {tc : Nat → ClassId} {h : mH} : va_D (fun q : Nat => base ≤ q) (cW b base tc h) := by
  refine ⟨fun i j p q hi hj he => ?_, fun k q hk => ?_⟩
  · obtain ⟨_, -, rfl⟩ := cW_inv hi
    obtain ⟨_, -, rfl⟩ := cW_inv hj
    exact Nat.add_left_cancel he
  · obtain ⟨_, -, rfl⟩ := cW_inv hk
    exact Nat.le_add_right _ _
theorem cV_cat (b base : Nat) (v : Value) : (cV b base v).category = v.category := by cases v <;> rfl
theorem cV_sum (b base : Nat) (st : List Value) : ((st.map (cV b base)).map fun v => v.category).sum = (st.map fun v => v.category).sum := by
  rw [List.map_map]
  congr 1
  apply List.map_congr_left
  intro v _
  exact cV_cat b base v
theorem inb_in {i : Int32} {n : Nat} (h : inb i n = true) : vp_in i n := by
  unfold inb at h
  simp only [Bool.and_eq_true, Bool.not_eq_true', decide_eq_false_iff_not, decide_eq_true_eq] at h
  rintro (q | q)
  · exact h.1 q
  · omega
theorem hOk_ok {ci k : Nat} {r : vw_C} {v : Value} {b base : Nat} (h : vwCl[ci]? = some r) (hk : k < r.2.2) (ho : hOk ci k v = true) : ∃ ty, parseFieldDescriptor (r.2.1 k).2.2.1 = some ty ∧ narrow ty (cV b base v) = cV b base v ∧ fits ty (cV b base v) = true := by
  have h1 := mFk_get h hk
  unfold mFkOk at h1
  unfold hOk at ho
  split at h1
  · next e =>
    rw [e] at ho
    rw [decide_eq_true_eq] at h1
    refine ⟨_, h1, ?_⟩
    cases v <;> first | (simp at ho; done) | exact ⟨rfl, rfl⟩
  · next e =>
    rw [e] at ho
    rw [decide_eq_true_eq] at h1
    refine ⟨_, h1, ?_⟩
    cases v with
    | int x =>
      simp only [Bool.or_eq_true, decide_eq_true_eq] at ho
      rcases ho with rfl | rfl
      · exact ⟨show narrow .boolean (.int 0) = .int 0 by decide, show fits .boolean (.int 0) = true by decide⟩
      · exact ⟨show narrow .boolean (.int 1) = .int 1 by decide, show fits .boolean (.int 1) = true by decide⟩
    | _ => simp at ho
  · next e =>
    rw [e] at ho
    rw [decide_eq_true_eq] at h1
    refine ⟨_, h1, ?_⟩
    cases v <;> first | (simp at ho; done) | exact ⟨rfl, rfl⟩
  · next e =>
    rw [e] at ho
    split at h1
    · next e2 =>
      refine ⟨_, e2, ?_⟩
      cases v <;> first | (simp at ho; done) | exact ⟨rfl, rfl⟩
    · next e2 =>
      refine ⟨_, e2, ?_⟩
      cases v <;> first | (simp at ho; done) | exact ⟨rfl, rfl⟩
    · cases h1
  · cases h1
/-- locals -/
def lOK (b base : Nat) (ls : Array Slot) (n : Nat) (l : mL) : Prop := l.length = n ∧ ∃ lv, lv_has ls n lv ∧ ∀ (i : Nat) (v : Value), l[i]? = some (some v) → (i, cV b base v) ∈ lv
theorem lOK_at {b base : Nat} {ls : Array Slot} {n : Nat} {l : mL} (h : lOK b base ls n l) {i : Nat} {v : Value} (e : l[i]? = some (some v)) : ls[i]? = some (.val (cV b base v)) := by
  obtain ⟨-, lv, h1, h2⟩ := h
  exact h1.2.2 (i, cV b base v) (h2 i v e)
theorem mKill_len (l : mL) (i : Nat) : (mKill l i).length = l.length := by
  unfold mKill
  split <;> simp
theorem mSt1_len (l : mL) (i : Nat) (v : Value) : (mSt1 l i v).length = l.length := by
  cases i with
  | zero => simp [mSt1]
  | succ i => simp [mSt1, mKill_len]
theorem mSt2_len (l : mL) (i : Nat) (v : Value) : (mSt2 l i v).length = l.length := by simp [mSt2, mSt1_len]
theorem mKill_get {l : mL} {i j : Nat} {w : Value} (h : (mKill l i)[j]? = some (some w)) : l[j]? = some (some w) ∧ (j = i → w.category ≠ 2) := by
  unfold mKill at h
  split at h
  · next x e =>
    by_cases hj : i = j
    · subst hj
      rw [List.getElem?_set_self (List.getElem?_eq_some_iff.mp e).1] at h
      cases h
    · rw [List.getElem?_set_ne hj] at h
      exact ⟨h, fun q => absurd q.symm hj⟩
  · next x e =>
    by_cases hj : i = j
    · subst hj
      rw [List.getElem?_set_self (List.getElem?_eq_some_iff.mp e).1] at h
      cases h
    · rw [List.getElem?_set_ne hj] at h
      exact ⟨h, fun q => absurd q.symm hj⟩
  · next n1 n2 =>
    refine ⟨h, fun q => ?_⟩
    subst q
    intro hc
    cases w with
    | long x => exact n1 x h
    | double x => exact n2 x h
    | _ => simp [Value.category] at hc
theorem mSt1_get {b base : Nat} {l : mL} {i : Nat} {v : Value} {lv : List (Nat × Value)} (h : ∀ (i : Nat) (v : Value), l[i]? = some (some v) → (i, cV b base v) ∈ lv) (hi : i < l.length) {j : Nat} {w : Value} (e : (mSt1 l i v)[j]? = some (some w)) : (j, cV b base w) ∈ (i, cV b base v) :: lv.filter (fun q => !(q.1 == i) && !(q.1 + 1 == i && q.2.category == 2)) := by
  by_cases hj : i = j
  · subst hj
    have : (mSt1 l i v)[i]? = some (some v) := by
      cases i with
      | zero => simp [mSt1, hi]
      | succ i => rw [mSt1, List.getElem?_set_self (by rw [mKill_len]; exact hi)]
    rw [this] at e
    cases e
    exact List.mem_cons_self
  · refine List.mem_cons_of_mem _ ?_
    cases i with
    | zero =>
      rw [mSt1, List.getElem?_set_ne hj] at e
      refine List.mem_filter.mpr ⟨h _ _ e, ?_⟩
      simp
      exact fun q => hj q.symm
    | succ i =>
      rw [mSt1, List.getElem?_set_ne hj] at e
      obtain ⟨e1, e2⟩ := mKill_get e
      refine List.mem_filter.mpr ⟨h _ _ e1, ?_⟩
      simp only [cV_cat, Bool.and_eq_true, Bool.not_eq_true', beq_eq_false_iff_ne, Bool.and_eq_false_iff, ne_eq]
      refine ⟨fun q => hj q.symm, ?_⟩
      by_cases q : j = i
      · exact Or.inr (e2 q)
      · exact Or.inl (by omega)
theorem mSt2_get {b base : Nat} {l : mL} {i : Nat} {v : Value} {lv : List (Nat × Value)} (h : ∀ (i : Nat) (v : Value), l[i]? = some (some v) → (i, cV b base v) ∈ lv) (hi : i + 1 < l.length) {j : Nat} {w : Value} (e : (mSt2 l i v)[j]? = some (some w)) : (j, cV b base w) ∈ (i, cV b base v) :: lv.filter (fun q => !(q.1 == i) && (!(q.1 == i + 1) && !(q.1 + 1 == i && q.2.category == 2))) := by
  unfold mSt2 at e
  by_cases hj : i + 1 = j
  · subst hj
    rw [List.getElem?_set_self (by rw [mSt1_len]; exact hi)] at e
    cases e
  · rw [List.getElem?_set_ne hj] at e
    rcases List.mem_cons.mp (mSt1_get h (by omega) e) with q | q
    · exact List.mem_cons.mpr (Or.inl q)
    · refine List.mem_cons_of_mem _ ?_
      obtain ⟨q1, q2⟩ := List.mem_filter.mp q
      refine List.mem_filter.mpr ⟨q1, ?_⟩
      simp only [Bool.and_eq_true] at q2 ⊢
      refine ⟨q2.1, ?_, q2.2⟩
      simp
      exact fun z => hj z.symm
theorem mZ_get : ∀ (l : mL) (bs : List Bool) (i : Nat) (v : Value), (mZ l bs)[i]? = some (some v) → l[i]? = some (some v)
  | [], bs, i, v, h => by cases bs <;> simp [mZ] at h
  | o :: r, [], i, v, h => by simpa [mZ] using h
  | o :: r, b :: bs, 0, v, h => by
    simp only [mZ, List.getElem?_cons_zero, Option.some.injEq] at h ⊢
    split at h
    · exact h
    · cases h
  | o :: r, b :: bs, i + 1, v, h => by
    simp only [mZ, List.getElem?_cons_succ] at h ⊢
    exact mZ_get r bs i v h
theorem mZ_len : ∀ (l : mL) (bs : List Bool), (mZ l bs).length = l.length
  | [], bs => by cases bs <;> rfl
  | o :: r, [] => rfl
  | o :: r, b :: bs => by simp [mZ, mZ_len r bs]
theorem lOK_mask {b base : Nat} {ls : Array Slot} {n : Nat} {l : mL} (y pc : Nat) (h : lOK b base ls n l) : lOK b base ls n (mM y pc l) := by
  unfold mM
  split
  · exact h
  · obtain ⟨h0, lv, h1, h2⟩ := h
    exact ⟨by rw [mZ_len]; exact h0, lv, h1, fun i v e => h2 i v (mZ_get _ _ _ _ e)⟩
/-- the entry -/
theorem mEn_args (b base : Nat) : ∀ (vs : List Value) (k : Nat) (j : Nat) (w : Value), (mEn vs)[j]? = some (some w) → (k + j, cV b base w) ∈ lv_args k (vs.map (cV b base))
  | [], k, j, w, h => by simp [mEn] at h
  | v :: r, k, j, w, h => by
    unfold mEn at h
    simp only [List.map_cons, lv_args, cV_cat]
    by_cases hc : v.category = 2
    · rw [if_pos hc] at h ⊢
      match j, h with
      | 0, h => simp at h; subst h; exact List.mem_cons_self
      | 1, h => simp at h
      | j + 2, h =>
        have := mEn_args b base r (k + 2) j w (by simpa using h)
        rw [show k + (j + 2) = k + 2 + j by omega]
        exact List.mem_cons_of_mem _ this
    · rw [if_neg hc] at h ⊢
      match j, h with
      | 0, h => simp at h; subst h; exact List.mem_cons_self
      | j + 1, h =>
        have := mEn_args b base r (k + 1) j w (by simpa using h)
        rw [show k + (j + 1) = k + 1 + j by omega]
        exact List.mem_cons_of_mem _ this
theorem mEn_len (b base : Nat) : ∀ (vs : List Value), (lg_sl (vs.map (cV b base))).length = (mEn vs).length
  | [] => rfl
  | v :: r => by
    have ih := mEn_len b base r
    simp only [lg_sl] at ih
    by_cases hc : v.category = 2
    · simp [lg_sl, mEn, cV_cat, hc, ih]
    · simp [lg_sl, mEn, cV_cat, hc, ih]
theorem lOK_entry {b base n : Nat} {vs : List Value} (h : (mEn vs).length ≤ n) : lOK b base ((lg_sl (vs.map (cV b base)) ++ List.replicate (n - (lg_sl (vs.map (cV b base))).length) Slot.unset).toArray) n (mEnt vs n) := by
  refine ⟨by simp [mEnt]; omega, _, lv_entry (vs.map (cV b base)) (by rw [mEn_len]; exact h), fun i v e => ?_⟩
  unfold mEnt at e
  by_cases hi : i < (mEn vs).length
  · rw [List.getElem?_append_left hi] at e
    have := mEn_args b base vs 0 i v e
    rwa [Nat.zero_add] at this
  · rw [List.getElem?_append_right (by omega)] at e
    rw [List.getElem?_replicate] at e
    split at e
    · cases e
    · cases e
end
section
/-! one instruction on the heap, over pictures: each from the kit's rows, with the heap's size kept in sight -/
def tysL (tc : Nat → ClassId) : List (ClassId × FieldType) := [(tc 0, .int), (tc 1, .boolean), (tc 2, .char), (tc 3, .byte), (tc 4, .object "CarryAlike$Walker")]
def wOK (D : va_G) (tc : Nat → ClassId) (b base : Nat) (h : mH) (H : Heap) : Prop := va_P D vwCl (cW b base tc h) H ∧ H.size = base + h.length ∧ h.length ≤ 1000
def gOK (D : va_G) (tc : Nat → ClassId) (b : Nat) (X : mX) (U : State) : Prop := va_K D vwCl (tysL tc) U ∧ (∀ a i c n d, Cond.fieldLinkNest a i c n d "CarryAlike" ∈ lw_tbl → va_Nw (.fieldLinkNest a i c n d "CarryAlike") U) ∧ (∀ a i x, Cond.methodLinkNest a i x "CarryAlike" ∈ lw_tbl → va_Nw (.methodLinkNest a i x "CarryAlike") U) ∧ va_AO "CarryAlike$Walker" U ∧ va_X b (X.1 - 1) X.2 U U.heap
def cOK (p : Program) (R : Room) (s : State) (m : MethodId) (args : Array Value) (meth : Method) (c : Code) (y : Nat) : Prop := p.tables.exec = Jvm.exec ∧ c.code = mCd y ∧ c.maxLocals = mMx y ∧ meth.sig.returnType = mRt y ∧ s.vm.findClass (mCn (mOwn y)) = some m.cls ∧ (∀ w ∈ lw_G, w.before args s = true) ∧ (mIni y = true → meth.name = "<init>") ∧ mFr y ≤ R.frames ∧ mLo y ≤ R.locals
theorem cAd_at {b base a : Nat} {h : mH} {c : mC} (e : h[a]? = some c) (hl : h.length ≤ 1000) : cAd b base a = base + a := by
  unfold cAd
  rw [if_neg]
  have := (List.getElem?_eq_some_iff.mp e).1
  unfold mSid
  omega
section ROW6
variable {p : Program} {L : Launch} {e : Env} {R : Room} {s : State} {m : MethodId} {args : Array Value} {below : List Frame} {meth : Method} {c : Code} {H : Heap} {locs : List Loc} {cells slots : Nat} {Q : State → Prop}
variable {D : va_G} {tc : Nat → ClassId} {b base : Nat} {h : mH} {X : mX} {y pc : Nat} {ls : Array Slot} {rest : List Value} {H0 : Heap}
theorem wOK_set {H1 : Heap} {a : Nat} {c0 c1 : mC} (hw : wOK D tc b base h H) (e0 : h[a]? = some c0) (he : va_at D vwCl (base + a, cE b base tc c1) H1) (z : H1.size = H.size) (oq : ∀ q : Nat, q ≠ base + a → H1[q]? = H[q]?) : wOK D tc b base (h.set a c1) H1 := by
  refine ⟨?_, by rw [z, hw.2.1, List.length_set], by rw [List.length_set]; exact hw.2.2⟩
  rw [← cW_set (b := b) (base := base) (tc := tc) e0]
  exact hw.1.set cW_D (cW_get e0) he oq
theorem wOK_push {H1 : Heap} {c1 : mC} (hw : wOK D tc b base h H) (hl : h.length < 1000) (he : va_at D vwCl (base + h.length, cE b base tc c1) H1) (z : H1.size = H.size + 1) (oq : ∀ q : Nat, q < H.size → H1[q]? = H[q]?) : wOK D tc b base (h ++ [c1]) H1 := by
  refine ⟨?_, by rw [z, hw.2.1, List.length_append]; rfl, by rw [List.length_append]; exact hl⟩
  rw [cW_push]
  refine (hw.1.kept (fun k q hk => oq q.1 ((hw.1 k q hk).lt))).app (fun k q hk => ?_)
  have hz : k < 1 := (List.getElem?_eq_some_iff.mp hk).1
  rw [show k = 0 by omega] at hk
  cases hk
  exact he
theorem vS_push {H1 : Heap} (hS : va_S (fun q : Nat => base ≤ q) H0 H locs) (z : H1.size = H.size + 1) (oq : ∀ q : Nat, q < H.size → H1[q]? = H[q]?) : va_S (fun q : Nat => base ≤ q) H0 H1 locs :=
  ⟨by rw [z]; exact Nat.le_succ_of_le hS.1, fun q h1 h2 => (oq q (Nat.lt_of_lt_of_le h1 hS.1)).trans (hS.2.1 q h1 h2), hS.2.2⟩
abbrev kOK (D : va_G) (tc : Nat → ClassId) (b base : Nat) (H0 : Heap) (h1 : mH) (H1 : Heap) (locs1 : List Loc) : Prop := wOK D tc b base h1 H1 ∧ va_S (fun q : Nat => base ≤ q) H0 H1 locs1
theorem r_getf (hc : cOK p R s m args meth c y) (hg : gOK D tc b X s) (hw : wOK D tc b base h H) {idx a ci k : Nat} {v : Value} (hf : lk (mFt (mOwn y)) idx = some (ci, k)) (hv : hGf h a ci k = some v) (hd : decode (mCd y) pc = .ok (.getfield idx, 3))
    (kk : W p L e R s m args below meth c H locs cells slots Q (F0 m (pc + 3) ls (cV b base v :: rest))) : W p L e R s m args below meth c H locs cells slots Q (F0 m pc ls (.ref (cAd b base a) :: rest)) := by
  obtain ⟨hx, hb, -, -, hown, hts, -⟩ := hc
  unfold hGf at hv
  split at hv
  · next c1 fs e1 =>
    split at hv
    · next hci =>
      subst hci
      obtain ⟨r, f1, f2, f3, f4⟩ := mF_get hf
      rw [cAd_at e1 hw.2.2]
      rcases f4 with f4 | f4
      · exact va_get (own := mCn (mOwn y)) (ref := r.1) (C := r.1) (T := r.2.1) (N := r.2.2) (ci := c1) hx hb hts (mL_get f1).2.2.1 hown hg.1 hw.1 a (cW_get e1) f1 k f2 (hts _ f4) (fun x hx => by rw [← f3]; rw [f3] at hx ⊢; exact hx) (by rw [List.getElem?_map, hv]; rfl) hd kk
      · exact va_getN (own := mCn (mOwn y)) (ref := r.1) (C := r.1) (T := r.2.1) (N := r.2.2) (ci := c1) hx hb hts (mL_get f1).2.2.1 hown hg.1 hw.1 a (cW_get e1) f1 k f2 (va_Nw.use rfl (hg.2.1 _ _ _ _ _ f4)) (fun x hx => by rw [f3] at hx; exact hx) (by rw [List.getElem?_map, hv]; rfl) hd kk
    · cases hv
  · cases hv
theorem r_putf (hc : cOK p R s m args meth c y) (hg : gOK D tc b X s) (hw : wOK D tc b base h H) (hS : va_S (fun q : Nat => base ≤ q) H0 H locs) {idx a ci k : Nat} {v : Value} {h1 : mH} (hf : lk (mFt (mOwn y)) idx = some (ci, k)) (hfin : (mFin ci k && !(mIni y && (mOwn y == ci))) = false) (hv : hPf h a ci k v = some h1) (hd : decode (mCd y) pc = .ok (.putfield idx, 3))
    (kk : h1.length = h.length → hSz h1 = hSz h → ∀ H1 locs1, kOK D tc b base H0 h1 H1 locs1 → W p L e R s m args below meth c H1 locs1 cells slots Q (F0 m (pc + 3) ls rest)) : W p L e R s m args below meth c H locs cells slots Q (F0 m pc ls (cV b base v :: .ref (cAd b base a) :: rest)) := by
  obtain ⟨hx, hb, -, -, hown, hts, hini, -⟩ := hc
  unfold hPf at hv
  split at hv
  · next c1 fs e1 =>
    split at hv
    · next hcnd =>
      obtain ⟨hci, hkl, hok⟩ := hcnd
      subst hci
      cases hv
      obtain ⟨r, f1, f2, f3, f4⟩ := mF_get hf
      obtain ⟨l1, l2, l3, l4, l5, l6⟩ := mL_get f1
      obtain ⟨ty, t1, t2, t3⟩ := hOk_ok (b := b) (base := base) f1 f2 hok
      rw [cAd_at e1 hw.2.2]
      have kk2 := kk (List.length_set ..) (hSz_set h a _ _ e1 (by simp [hSz1]))
      clear kk
      obtain ⟨r', h1', cell, q1, q2, q3, q4⟩ := hw.1 a _ (cW_get e1)
      have hr : r' = r := Option.some.inj (h1'.symm.trans f1)
      subst hr
      obtain ⟨hSl, hfc, kC, hkC, hkind⟩ := hg.1.1 c1 _ f1
      obtain ⟨cf, kf, fi, f, hi, hsl⟩ := hSl k f2
      have hlays := u_lays hts l3 f2
      have hst := (u_facts hfc hkC hlays hi).1
      have hap := va_apart (own := mCn (mOwn y)) hts l3 (fun k => (parseFieldDescriptor (r'.2.1 k).2.2.1).getD .int) (fun k hk => by
        obtain ⟨z, hz⟩ := Option.isSome_iff_exists.mp (l4 k hk)
        rw [hz]; rfl) l5 hg.1 f1
      have fin : ∀ H' : Heap, H'[base + a]? = some (cell.setSlot ((D.2 c1) k) (cV b base v)) → H'.size = H.size → (∀ q, q ≠ base + a → H'[q]? = H[q]?) → kOK D tc b base H0 (h.set a (.inr (c1, fs.set k v))) H' (locs ++ [⟨base + a, (D.2 c1) k⟩]) := by
        intro H' g1 g2 g3
        refine ⟨wOK_set hw e1 ?_ g2 g3, hS.put g2 g3 (Nat.le_add_right _ _)⟩
        refine ⟨_, f1, ?_⟩
        show t_OB (base + a) _ _ _ _ (vp_V ((fs.set k v).map (cV b base)))
        rw [List.map_set]
        exact t_OB.to (V := updV (vp_V (fs.map (cV b base))) k (cV b base v)) ⟨_, g1, q2, q3, t_set q4 hap f2 _⟩ (fun j _ => vp_updV_set (by rw [List.length_map]; exact hkl) _ j)
      by_cases hF : (r'.2.1 k).2.2.2 = true
      · have hFin : mFin c1 k = true := by unfold mFin; rw [f1]; exact hF
        rw [hFin, Bool.true_and, Bool.not_eq_false', Bool.and_eq_true, beq_iff_eq] at hfin
        have hlay := hts _ (l3 _ (u_in_lay f2))
        unfold u_lay at hlay
        rw [if_pos hF] at hlay
        have hcf : m.cls = cf := by
          obtain ⟨_, _, c', _, _, _, -, -, hf', -, -, -, hown2, -⟩ := Cond.laysFinal_spec hlay
          have z1 : c' = cf := by have := hi.symm.trans hf'; simp at this; exact this.1.symm
          rw [f3, ← l6, ← hfin.2] at hown2
          rw [← z1]; exact Option.some.inj (hown.symm.trans hown2)
        have h6 := u_fits hfc hkC hkind (Or.inr hlay) hi t1 t2 t3
        rcases f4 with f4 | f4
        · refine W.putFinK hx hb hown (hts _ f4) (by rw [f3] at hi; exact hi) hst hcf (hini hfin.1) (by rw [q2]; exact h6) q1 q3 (by rw [hsl]; exact k2_hasslot (q4 k f2)) rfl rfl hd fun H' g1 g2 g3 => ?_
          rw [hsl] at g1 ⊢
          exact kk2 _ _ (fin H' g1 g2 g3)
        · refine va_Wputf hx hb hown (va_Nw.use rfl (hg.2.1 _ _ _ _ _ f4)) (by rw [f3] at hi; exact hi) hst (Or.inr ⟨hcf, hini hfin.1⟩) q1 (by rw [q3]; exact fun z => by cases z) (by rw [hsl]; exact k2_hasslot (q4 k f2)) h6.1 (by rw [q2, q3]; exact h6.2) rfl rfl hd ?_
          rw [hsl]
          have ha : base + a < H.size := (Array.getElem?_eq_some_iff.mp q1).1
          exact kk2 _ _ (fin _ (by simp [Array.getElem?_setIfInBounds, ha]) (by simp) (fun q hq => by simp [Array.getElem?_setIfInBounds, Ne.symm hq]))
      · have hF' : (r'.2.1 k).2.2.2 = false := by simpa using hF
        have hlay := hts _ (l3 _ (u_in_lay f2))
        unfold u_lay at hlay
        rw [if_neg hF] at hlay
        have h6 := u_store hfc hkC hkind hlay hi t1 t2 t3
        rcases f4 with f4 | f4
        · refine W.putK hx hb (f := f) ⟨hown, hts _ f4, ⟨cf, kf, fi, by rw [f3] at hi; exact hi⟩, hst⟩ (by rw [q2]; exact h6) q1 q3 (by rw [hsl]; exact k2_hasslot (q4 k f2)) rfl rfl hd fun H' g1 g2 g3 => ?_
          rw [hsl] at g1 ⊢
          exact kk2 _ _ (fin H' g1 g2 g3)
        · refine va_WputK hx hb (f := f) hown (va_Nw.use rfl (hg.2.1 _ _ _ _ _ f4)) (by rw [f3] at hi; exact hi) hst (by rw [q2]; exact h6) q1 q3 (by rw [hsl]; exact k2_hasslot (q4 k f2)) rfl rfl hd fun H' g1 g2 g3 => ?_
          rw [hsl] at g1 ⊢
          exact kk2 _ _ (fin H' g1 g2 g3)
    · cases hv
  · cases hv
theorem vin_size {i : Int32} {n : Nat} {cA : ClassId} {f : Nat → Value} (hin : inb i n = true) : ¬ (i < 0 ∨ (arrV cA n f).slots.size ≤ i.toNatClampNeg) := by
  rw [arrV_size]; exact inb_in hin
theorem r_arr {H1 : Heap} {a t n : Nat} {i : Int32} {f : Nat → Int32} {x : Int32} (hw : wOK D tc b base h H) (hS : va_S (fun q : Nat => base ≤ q) H0 H locs) (e0 : h[a]? = some (.inl (t, n, .inl f))) (g1 : H1[base + a]? = some ((vp_cell (tc t) (n, .inl f)).setSlot i.toNatClampNeg (.int x))) (g2 : H1.size = H.size) (g3 : ∀ q, q ≠ base + a → H1[q]? = H[q]?) : kOK D tc b base H0 (h.set a (.inl (t, n, .inl (upd f i.toNatClampNeg x)))) H1 (locs ++ [⟨base + a, i.toNatClampNeg⟩]) := by
  refine ⟨wOK_set hw e0 ?_ g2 g3, hS.put g2 g3 (Nat.le_add_right _ _)⟩
  show H1[base + a]? = some (vp_cell (tc t) (n, .inl (upd f i.toNatClampNeg x)))
  rw [g1, vp_cell_i, vp_cell_i, arrV_store]
  congr 2
  funext q
  by_cases hq : q = i.toNatClampNeg
  · subst hq
    simp [updV, upd]
  · simp [updV, upd, hq]
theorem r_ald (hc : cOK p R s m args meth c y) (hg : gOK D tc b X s) (hw : wOK D tc b base h H) {kind a : Nat} {i : Int32} {v : Value} {ins : Instr} (hk : (kind, ins) = (0, Instr.iaload) ∨ (kind, ins) = (1, Instr.baload) ∨ (kind, ins) = (2, Instr.caload) ∨ (kind, ins) = (3, Instr.aaload)) (hv : hLd h a kind i = some v) (hd : decode (mCd y) pc = .ok (ins, 1))
    (kk : W p L e R s m args below meth c H locs cells slots Q (F0 m (pc + 1) ls (cV b base v :: rest))) : W p L e R s m args below meth c H locs cells slots Q (F0 m pc ls (.int i :: .ref (cAd b base a) :: rest)) := by
  obtain ⟨hx, hb, -⟩ := hc
  unfold hLd at hv
  split at hv
  · next t n f e1 =>
    split at hv
    · next hcnd =>
      obtain ⟨hin, hki⟩ := hcnd
      cases hv
      rw [cAd_at e1 hw.2.2]
      have hin' := inb_in hin
      simp only [hKi, Bool.or_eq_true, Bool.and_eq_true, beq_iff_eq] at hki
      rcases hk with hk | hk | hk | hk <;> cases hk
      · have ht : t = 0 := by omega
        subst ht
        exact va_iald hx hb hg.1 hw.1 a 0 (cW_get e1) rfl hin' hd kk
      · have ht : t = 1 ∨ t = 3 := by omega
        rcases ht with rfl | rfl
        · exact va_zald hx hb hg.1 hw.1 a 1 (cW_get e1) rfl hin' hd kk
        · exact va_bald hx hb hg.1 hw.1 a 3 (cW_get e1) rfl hin' hd kk
      · have ht : t = 2 := by omega
        subst ht
        exact va_cald hx hb hg.1 hw.1 a 2 (cW_get e1) rfl hin' hd kk
      · omega
    · cases hv
  · next t n g e1 =>
    split at hv
    · next hcnd =>
      obtain ⟨hin, hki, rfl⟩ := hcnd
      cases hv
      rw [cAd_at e1 hw.2.2]
      have hin' := inb_in hin
      rcases hk with hk | hk | hk | hk <;> cases hk <;> try (exact absurd hki (by decide))
      refine va_aldq (C := "CarryAlike$Walker") hx hb hg.1 hw.1 a 4 (cW_get e1) rfl hin' hd ?_
      have ez : va_rf (((g[i.toNatClampNeg]?).join).map (cAd b base)) = cV b base (va_rf ((g[i.toNatClampNeg]?).join)) := by
        cases (g[i.toNatClampNeg]?).join <;> rfl
      rw [ez]
      exact kk
    · cases hv
  · cases hv
theorem r_ast (hc : cOK p R s m args meth c y) (hg : gOK D tc b X s) (hw : wOK D tc b base h H) (hS : va_S (fun q : Nat => base ≤ q) H0 H locs) {kind a : Nat} {i : Int32} {v : Value} {ins : Instr} {h1 : mH} (hk : (kind, ins) = (0, Instr.iastore) ∨ (kind, ins) = (1, Instr.bastore) ∨ (kind, ins) = (2, Instr.castore) ∨ (kind, ins) = (3, Instr.aastore)) (hv : hSt h a kind i v = some h1) (hd : decode (mCd y) pc = .ok (ins, 1))
    (kk : h1.length = h.length → hSz h1 = hSz h → ∀ H1 locs1, kOK D tc b base H0 h1 H1 locs1 → W p L e R s m args below meth c H1 locs1 cells slots Q (F0 m (pc + 1) ls rest)) : W p L e R s m args below meth c H locs cells slots Q (F0 m pc ls (cV b base v :: .int i :: .ref (cAd b base a) :: rest)) := by
  obtain ⟨hx, hb, -⟩ := hc
  unfold hSt at hv
  split at hv
  · next t n f x e1 =>
    split at hv
    · next hcnd =>
      obtain ⟨hin, hki⟩ := hcnd
      cases hv
      have kk2 := kk (List.length_set ..) (hSz_set h a _ _ e1 rfl)
      clear kk
      rw [cAd_at e1 hw.2.2]
      simp only [hKi, Bool.or_eq_true, Bool.and_eq_true, beq_iff_eq] at hki
      rcases hk with hk | hk | hk | hk <;> cases hk
      · have ht : t = 0 := by omega
        subst ht
        exact W.iast hx hb (hw.1 a _ (cW_get e1)) ((hg.1.2 0 _ rfl).1 n (fun j => .int (f j))) (fun q => by cases q) (vin_size hin) rfl rfl hd fun H1 g1 g2 g3 => kk2 _ _ (r_arr hw hS e1 g1 g2 g3)
      · have ht : t = 1 ∨ t = 3 := by omega
        rcases ht with rfl | rfl
        · exact W.zast hx hb (hw.1 a _ (cW_get e1)) ((hg.1.2 1 _ rfl).1 n (fun j => .int (f j))) (fun q => by cases q) (vin_size hin) rfl rfl hd fun H1 g1 g2 g3 => kk2 _ _ (r_arr hw hS e1 g1 g2 g3)
        · exact W.bast hx hb (hw.1 a _ (cW_get e1)) ((hg.1.2 3 _ rfl).1 n (fun j => .int (f j))) (fun q => by cases q) (vin_size hin) rfl rfl hd fun H1 g1 g2 g3 => kk2 _ _ (r_arr hw hS e1 g1 g2 g3)
      · have ht : t = 2 := by omega
        subst ht
        exact W.cast hx hb (hw.1 a _ (cW_get e1)) ((hg.1.2 2 _ rfl).1 n (fun j => .int (f j))) (fun q => by cases q) (vin_size hin) rfl rfl hd fun H1 g1 g2 g3 => kk2 _ _ (r_arr hw hS e1 g1 g2 g3)
      · omega
    · cases hv
  · next t n g v0 e1 =>
    split at hv
    · next hcnd =>
      obtain ⟨hin, hki, rfl, hgl⟩ := hcnd
      split at hv
      · next c2 fs2 e2 =>
        split at hv
        · next hwk =>
          subst hwk
          cases hv
          have kk2 := kk (List.length_set ..) (hSz_set h a _ _ e1 rfl)
          clear kk
          rcases hk with hk | hk | hk | hk <;> cases hk <;> try (exact absurd hki (by decide))
          rw [cAd_at e1 hw.2.2]
          show W p L e R s m args below meth c H locs cells slots Q (F0 m pc ls (.ref (cAd b base v0) :: .int i :: .ref (base + a) :: rest))
          rw [cAd_at e2 hw.2.2]
          have hlt : i.toNatClampNeg < n := by
            have := inb_in hin
            exact Nat.not_le.mp fun q => this (Or.inr q)
          have h0 : ¬ i < 0 := fun q => inb_in hin (Or.inl q)
          obtain ⟨r', hr', cellV, g1, g2, g3, -⟩ := hw.1 v0 _ (cW_get e2)
          have hcls := (hg.1.1 mWk r' hr').2
          have hwkn : r'.1 = "CarryAlike$Walker" := by
            have hr2 : vwCl[mWk]? = some r' := hr'
            have := mWk_ok
            rw [hr2] at this
            exact Option.some.inj this
          obtain ⟨kA, comp, k1, k2, k3, -⟩ := (hg.1.2 4 _ rfl).2
          rw [← hwkn] at k3
          have hcomp : comp = D.1 mWk := Option.some.inj (k3.symm.trans hcls.1)
          subst hcomp
          have hcls0 := hcls
          obtain ⟨-, kC, hkC, -⟩ := hcls0
          refine W.aast hx hb (hw.1 a _ (cW_get e1)) (fun q z => by cases z) (fun z => by cases z) k1 k2 rfl hkC ⟨h0, by show _ < (arrV _ _ _).slots.size; rw [arrV_size]; exact hlt⟩ g1 (fun q z => by rw [g3] at z; cases z) (by rw [g2]; exact hkC) (by rw [g2]; exact va_assign hcls) rfl rfl hd fun H1 w1 w2 w3 => kk2 _ _ ⟨wOK_set hw e1 ?_ w2 w3, hS.put w2 w3 (Nat.le_add_right _ _)⟩
          show H1[base + a]? = some (vp_cell (tc 4) (n, .inr (.inr (.inr (.inr (fun j => (((g.set i.toNatClampNeg (some v0))[j]?).join).map (cAd b base)))))))
          rw [w1]
          show some ((vp_cell (tc 4) (n, .inr (.inr (.inr (.inr (fun j => ((g[j]?).join).map (cAd b base))))))).setSlot _ _) = _
          rw [vp_cell_q, vp_cell_q, arrV_store]
          congr 2
          funext q
          by_cases hq : q = i.toNatClampNeg
          · subst hq
            rw [List.getElem?_set_self hgl]
            simp [updV, va_rf, cAd_at e2 hw.2.2]
          · rw [List.getElem?_set_ne (fun z => hq z.symm)]
            simp [updV, hq]
        · cases hv
      · cases hv
    · cases hv
  · cases hv
theorem r_alen (hc : cOK p R s m args meth c y) (hg : gOK D tc b X s) (hw : wOK D tc b base h H) {a : Nat} {v : Int32} (hv : hLn h a = some v) (hd : decode (mCd y) pc = .ok (.arraylength, 1))
    (kk : W p L e R s m args below meth c H locs cells slots Q (F0 m (pc + 1) ls (.int v :: rest))) : W p L e R s m args below meth c H locs cells slots Q (F0 m pc ls (.ref (cAd b base a) :: rest)) := by
  obtain ⟨hx, hb, -⟩ := hc
  unfold hLn at hv
  split at hv
  · next t n x e1 =>
    split at hv
    case isFalse => cases hv
    next h5 =>
    cases hv
    rw [cAd_at e1 hw.2.2]
    have hty : ∃ ty, (tysL tc)[t]? = some (tc t, ty) := by
      match t, h5 with
      | 0, _ => exact ⟨_, rfl⟩
      | 1, _ => exact ⟨_, rfl⟩
      | 2, _ => exact ⟨_, rfl⟩
      | 3, _ => exact ⟨_, rfl⟩
      | 4, _ => exact ⟨_, rfl⟩
    obtain ⟨ty, hty⟩ := hty
    cases x with
    | inl f => exact va_alen hx hb hg.1 hw.1 a t (x := (n, .inl f)) (cW_get e1) hty rfl hd kk
    | inr g => exact va_alen hx hb hg.1 hw.1 a t (x := (n, .inr (.inr (.inr (.inr (fun j => ((g[j]?).join).map (cAd b base))))))) (cW_get e1) hty rfl hd kk
  · cases hv
theorem hDf_ok {ci : Nat} {r : vw_C} (h1 : vwCl[ci]? = some r) {ty : Nat → FieldType} (hty : ∀ k, k < r.2.2 → parseFieldDescriptor (r.2.1 k).2.2.1 = some (ty k)) : ∀ j, j < r.2.2 → defaultValue (ty j) = vp_V ((hDf ci r.2.2).map (cV b base)) j := by
  intro j hj
  have h2 := mFk_get h1 hj
  have e1 : ((hDf ci r.2.2).map (cV b base))[j]? = some (cV b base (hD1 (mFk ci j))) := by
    simp [hDf, List.getElem?_map, List.getElem?_range hj]
  unfold vp_V
  rw [List.getD_eq_getElem?_getD, e1, Option.getD_some]
  unfold mFkOk at h2
  rw [hty j hj] at h2
  split at h2
  · next e => rw [e]; rw [decide_eq_true_eq] at h2; rw [Option.some.inj h2]; rfl
  · next e => rw [e]; rw [decide_eq_true_eq] at h2; rw [Option.some.inj h2]; rfl
  · next e => rw [e]; rw [decide_eq_true_eq] at h2; rw [Option.some.inj h2]; rfl
  · next e =>
    rw [e]
    split at h2
    · next e2 => rw [Option.some.inj e2]; rfl
    · next e2 => rw [Option.some.inj e2]; rfl
    · cases h2
  · cases h2
theorem r_new (hc : cOK p R s m args meth c y) (hg : gOK D tc b X s) (hw : wOK D tc b base h H) (hS : va_S (fun q : Nat => base ≤ q) H0 H locs) {idx ci : Nat} {q : mH × Nat} (hf : lk (mCt (mOwn y)) idx = some ci) (hv : hNw h ci = some q) (hd : decode (mCd y) pc = .ok (.new idx, 3)) (hcl : cells + 1 ≤ R.cells) (hsl : slots + (hSz q.1 - hSz h) ≤ R.slots)
    (kk : q.1.length = h.length + 1 → hSz h ≤ hSz q.1 → ∀ H1, kOK D tc b base H0 q.1 H1 locs → W p L e R s m args below meth c H1 locs (cells + 1) (slots + (hSz q.1 - hSz h)) Q (F0 m (pc + 3) ls (.ref (cAd b base q.2) :: rest))) : W p L e R s m args below meth c H locs cells slots Q (F0 m pc ls rest) := by
  obtain ⟨hx, hb, -, -, hown, hts, -⟩ := hc
  unfold hNw at hv
  split at hv
  · next r f1 =>
    split at hv
    · next hlen =>
      cases hv
      obtain ⟨r2, f2, f3⟩ := mC_get hf
      cases f1.symm.trans f2
      obtain ⟨l1, l2, l3, l4, l5, l6⟩ := mL_get f1
      have hKn := hg.1.1 ci _ f1
      have ez : hSz (h ++ [.inr (ci, hDf ci r.2.2)]) - hSz h = r.2.2 := by rw [hSz_push, Nat.add_sub_cancel_left]; simp [hSz1, hDf]
      dsimp only at hsl kk
      rw [ez] at hsl kk
      refine W.newcK hx hb hown (hts _ f3) (hts _ l1) (hts _ l2) rfl hd hcl hsl hKn.2.1 rfl fun H1 kC hkC e1 z1 o1 => ?_
      have ea : cAd b base h.length = H.size := by rw [hw.2.1]; unfold cAd mSid; rw [if_neg (by omega)]
      rw [ea] at kk
      refine kk (by simp) (by rw [hSz_push]; omega) H1 ⟨wOK_push hw hlen ?_ z1 o1, vS_push hS z1 o1⟩
      have hty : ∀ k, k < r.2.2 → parseFieldDescriptor (r.2.1 k).2.2.1 = some ((parseFieldDescriptor (r.2.1 k).2.2.1).getD .int) := fun k hk => by
        obtain ⟨z, hz⟩ := Option.isSome_iff_exists.mp (l4 k hk)
        rw [hz]; rfl
      rw [hw.2.1] at e1
      exact ⟨_, f1, (u_born (fun k => (parseFieldDescriptor (r.2.1 k).2.2.1).getD .int) hts l3 hKn hkC e1 hty).to (hDf_ok f1 hty)⟩
    · cases hv
  · cases hv
theorem r_newa (hc : cOK p R s m args meth c y) (hg : gOK D tc b X s) (hw : wOK D tc b base h H) (hS : va_S (fun q : Nat => base ≤ q) H0 H locs) {t : Nat} {at1 : ArrayType} {n : Int32} {q : mH × Nat} (ht : (t, at1) = (0, ArrayType.int) ∨ (t, at1) = (1, ArrayType.boolean) ∨ (t, at1) = (2, ArrayType.char) ∨ (t, at1) = (3, ArrayType.byte)) (hv : hNa h t n = some q) (hd : decode (mCd y) pc = .ok (.newarray at1, 2)) (hcl : cells + 1 ≤ R.cells) (hsl : slots + (hSz q.1 - hSz h) ≤ R.slots)
    (kk : q.1.length = h.length + 1 → hSz h ≤ hSz q.1 → ∀ H1, kOK D tc b base H0 q.1 H1 locs → W p L e R s m args below meth c H1 locs (cells + 1) (slots + (hSz q.1 - hSz h)) Q (F0 m (pc + 2) ls (.ref (cAd b base q.2) :: rest))) : W p L e R s m args below meth c H locs cells slots Q (F0 m pc ls (.int n :: rest)) := by
  obtain ⟨hx, hb, -, -, hown, hts, -⟩ := hc
  unfold hNa at hv
  split at hv
  · next hcnd =>
    obtain ⟨hlen, hn, hn2, h5⟩ := hcnd
    cases hv
    have ez : hSz (h ++ [.inl (t, n.toNatClampNeg, if t = 4 then .inr (List.replicate n.toNatClampNeg none) else .inl (fun _ => 0))]) - hSz h = n.toNatClampNeg := by rw [hSz_push, Nat.add_sub_cancel_left]; rfl
    have harr : (Cond.arrayClass (newarray.typeOf at1)).before args s = true ∧ componentBytes (newarray.typeOf at1) ≤ 4 ∧ (tysL tc)[t]? = some (tc t, newarray.typeOf at1) ∧ t ≠ 4 ∧ defaultValue (newarray.typeOf at1) = .int 0 ∧ ∀ (U : State) (cA : ClassId), va_RA U cA (newarray.typeOf at1) → U.vm.findClass ("[" ++ (newarray.typeOf at1).toString) = some cA := by
      rcases ht with ht | ht | ht | ht <;> cases ht
      · exact ⟨hts _ (lw_in mAr_w.1 rfl), by decide, rfl, by decide, rfl, fun U cA h => h⟩
      · exact ⟨hts _ (lw_in mAr_w.2.1 rfl), by decide, rfl, by decide, rfl, fun U cA h => h⟩
      · exact ⟨hts _ (lw_in mAr_w.2.2.1 rfl), by decide, rfl, by decide, rfl, fun U cA h => h⟩
      · exact ⟨hts _ (lw_in mAr_w.2.2.2.1 rfl), by decide, rfl, by decide, rfl, fun U cA h => h⟩
    obtain ⟨a1, a2, a3, a4, a5, a6⟩ := harr
    dsimp only at hsl kk
    rw [ez] at hsl kk
    have ea : cAd b base h.length = H.size := by rw [hw.2.1]; unfold cAd mSid; rw [if_neg (by omega)]
    rw [ea] at kk
    refine va_newaK hx hb a1 rfl hd rfl hn rfl ?_ hcl hsl rfl fun H1 cA e1 z1 o1 hAr hNm => ?_
    · have : n.toNatClampNeg * componentBytes (newarray.typeOf at1) ≤ 1000 * 4 := Nat.mul_le_mul hn2 a2
      omega
    · have hcA : cA = tc t := Option.some.inj (hNm.symm.trans (a6 _ _ (hg.1.2 t _ a3).2))
      subst hcA
      refine kk (by simp) (by rw [hSz_push]; omega) H1 ⟨wOK_push hw hlen ?_ z1 o1, vS_push hS z1 o1⟩
      rw [if_neg a4]
      show H1[base + h.length]? = some (vp_cell (tc t) (n.toNatClampNeg, .inl (fun _ => 0)))
      rw [← hw.2.1, e1, a5, vp_cell_i]
  · cases hv
theorem r_anew (hc : cOK p R s m args meth c y) (hg : gOK D tc b X s) (hw : wOK D tc b base h H) (hS : va_S (fun q : Nat => base ≤ q) H0 H locs) {idx : Nat} {n : Int32} {q : mH × Nat} (hf : mAt (mOwn y) idx = true) (hv : hNa h 4 n = some q) (hd : decode (mCd y) pc = .ok (.anewarray idx, 3)) (hcl : cells + 1 ≤ R.cells) (hsl : slots + (hSz q.1 - hSz h) ≤ R.slots)
    (kk : q.1.length = h.length + 1 → hSz h ≤ hSz q.1 → ∀ H1, kOK D tc b base H0 q.1 H1 locs → W p L e R s m args below meth c H1 locs (cells + 1) (slots + (hSz q.1 - hSz h)) Q (F0 m (pc + 3) ls (.ref (cAd b base q.2) :: rest))) : W p L e R s m args below meth c H locs cells slots Q (F0 m pc ls (.int n :: rest)) := by
  obtain ⟨hx, hb, -, -, hown, hts, -⟩ := hc
  unfold hNa at hv
  split at hv
  · next hcnd =>
    obtain ⟨hlen, hn, hn2, h5⟩ := hcnd
    cases hv
    have ez : hSz (h ++ [.inl (4, n.toNatClampNeg, if 4 = 4 then .inr (List.replicate n.toNatClampNeg none) else .inl (fun _ => 0))]) - hSz h = n.toNatClampNeg := by rw [hSz_push, Nat.add_sub_cancel_left]; rfl
    dsimp only at hsl kk
    rw [ez] at hsl kk
    have ea : cAd b base h.length = H.size := by rw [hw.2.1]; unfold cAd mSid; rw [if_neg (by omega)]
    rw [ea] at kk
    refine W.anew hx hb hown (hts _ (mA_get hf)) (va_AO.use hg.2.2.2.1) rfl hd rfl hn (by omega) hcl hsl fun cA kA comp f1 f2 f3 f4 => ?_
    generalize hH1 : H.push ({ cls := cA, slots := Array.replicate n.toNatClampNeg .null, vm := .none } : Cell) = H1
    have z1 : H1.size = H.size + 1 := by rw [← hH1, Array.size_push]
    have e1 : H1[H.size]? = some (arrV cA n.toNatClampNeg (fun _ => .null)) := by rw [← hH1, Array.getElem?_push_size, ← arrV_new]
    have o1 : ∀ q : Nat, q < H.size → H1[q]? = H[q]? := fun q hq => by rw [← hH1, Array.getElem?_push, if_neg (Nat.ne_of_lt hq)]
    obtain ⟨kA', comp', -, -, -, k4⟩ := (hg.1.2 4 _ rfl).2
    have hcA : cA = tc 4 := Option.some.inj (f1.symm.trans k4)
    subst hcA
    refine kk (by simp) (by rw [hSz_push]; omega) H1 ⟨wOK_push hw hlen ?_ z1 o1, vS_push hS z1 o1⟩
    rw [if_pos rfl]
    show H1[base + h.length]? = some (vp_cell (tc 4) (n.toNatClampNeg, .inr (.inr (.inr (.inr (fun j => (((List.replicate n.toNatClampNeg (none : Option Nat))[j]?).join).map (cAd b base)))))))
    rw [← hw.2.1, e1, vp_cell_q]
    congr 2
    funext j
    rw [List.getElem?_replicate]
    split <;> rfl
  · cases hv
theorem r_copy (hc : cOK p R s m args meth c y) (hg : gOK D tc b X s) (hw : wOK D tc b base h H) (hS : va_S (fun q : Nat => base ≤ q) H0 H locs) (hls : ls.size = mMx y) {idx a0 a : Nat} {sp dp n : Int32} {h1 : mH} (hf : mNt (mOwn y) idx = true) (hr : mRn y = true) (hsm : (rest.map fun v => v.category).sum ≤ 8) (hv : hCp h a0 sp a dp n = some h1) (hd : decode (mCd y) pc = .ok (.invokestatic idx, 3))
    (kk : h1.length = h.length → hSz h1 = hSz h → ∀ H1 locs1, kOK D tc b base H0 h1 H1 locs1 → W p L e R s m args below meth c H1 locs1 cells slots Q (F0 m (pc + 3) ls rest)) : W p L e R s m args below meth c H locs cells slots Q (F0 m pc ls (.int n :: .int dp :: .ref (cAd b base a) :: .int sp :: .ref (cAd b base a0) :: rest)) := by
  obtain ⟨hx, hb, hml, -, hown, hts, -, hfr, hlo⟩ := hc
  simp only [mRn, Bool.and_eq_true, decide_eq_true_eq] at hr
  unfold hCp at hv
  split at hv
  case h_2 => cases hv
  next t0 n0 f t1 n1 g e0 e1 =>
  split at hv
  case isFalse => cases hv
  next hcnd =>
  obtain ⟨rfl, rfl, h1', h2', h3', h4', h5'⟩ := hcnd
  cases hv
  have kk2 := kk (List.length_set ..) (hSz_set h a _ _ e1 rfl)
  clear kk
  rw [cAd_at e0 hw.2.2, cAd_at e1 hw.2.2]
  have nn : ∀ z : Int32, ¬ z < 0 → z.toInt = (z.toNatClampNeg : Int) := by
    intro z hz
    have hz0 : (0 : Int) ≤ z.toInt := by
      have := Int32.not_lt.mp hz
      simpa using Int32.le_iff_toInt_le.mp this
    show z.toInt = ((z.toInt.toNat : Nat) : Int)
    omega
  intro T hT X9
  have hc0 : H[base + a0]? = some (vp_cell (tc 0) (n0, .inl f)) := hw.1 a0 _ (cW_get e0)
  have hc1 : H[base + a]? = some (vp_cell (tc 0) (n1, .inl g)) := hw.1 a _ (cW_get e1)
  obtain ⟨-, k0, hk0, cm0, hkk0⟩ := (hg.1.2 0 _ rfl).1 n0 (fun j => .int (f j))
  obtain ⟨-, k1, hk1, cm1, hkk1⟩ := (hg.1.2 0 _ rfl).1 n1 (fun j => .int (g j))
  obtain ⟨vm', X', step⟩ := X9.arraycopy hx hown (hts _ (mN_get hf)) (hts _ (lw_in mAc_w.1 rfl)) (hts _ (lw_in mAc_w.2.1 rfl)) (hts _ (lw_in mAc_w.2.2 rfl)) (src := base + a0) (dst := base + a) (cs := vp_cell (tc 0) (n0, .inl f)) (cd := vp_cell (tc 0) (n1, .inl g)) (srcPos := sp) (destPos := dp) (n := n) (by rw [hT]; exact hc0) (by rw [hT]; exact hc1)
    (fun _ h => by cases h) (fun _ h => by cases h) (fun h => by cases h) (fun h => by cases h) hk0 hk1 hkk0 hkk1 (by simp [refKind]) h1' h2' h3'
    (by rw [nn sp h1', nn n h3']; show ¬ _ > ((arrV (tc 0) n0 (fun j => .int (f j))).slots.size : Int); rw [arrV_size]; omega)
    (by rw [nn dp h2', nn n h3']; show ¬ _ > ((arrV (tc 0) n1 (fun j => .int (g j))).slots.size : Int); rw [arrV_size]; omega)
    (fun vm₁ _ i hi => by
      have ee : (vp_cell (tc 0) (n0, .inl f)).slots.getD (sp.toNatClampNeg + i) .null = .int (f (sp.toNatClampNeg + i)) := by
        show (arrV (tc 0) n0 (fun j => .int (f j))).slots.getD _ _ = _
        rw [Array.getD_eq_getD_getElem?, arrV_read _ _ (by omega)]
        rfl
      refine ⟨?_, ?_⟩
      · rw [ee]; rfl
      · rw [ee]; exact trivial)
    (g := F0 m pc ls (.int n :: .int dp :: .ref (base + a) :: .int sp :: .ref (base + a0) :: rest)) rfl (by rw [hml]; exact hls) (rest := rest) rfl (by rw [hb]; exact hd) (by omega) (by
      have : nativeFrameWords "java/lang/System" "arraycopy" 5 = 7 := by decide
      rw [this]
      show 2 * 0 + _ + _ ≤ _
      omega)
  have ec : copied (vp_cell (tc 0) (n0, .inl f)) (vp_cell (tc 0) (n1, .inl g)) sp dp n = vp_cell (tc 0) (n1, .inl (va_cpy f g sp.toNatClampNeg dp.toNatClampNeg n.toNatClampNeg)) := va_copied (fun z => .int z) (tc 0) (tc 0) f g h4'
  rw [ec] at X' step
  have hl : base + a < H.size := (Array.getElem?_eq_some_iff.mp hc1).1
  have hheap : ((T.setVm vm').setCell (base + a) (vp_cell (tc 0) (n1, .inl (va_cpy f g sp.toNatClampNeg dp.toNatClampNeg n.toNatClampNeg)))).heap = H.setIfInBounds (base + a) (vp_cell (tc 0) (n1, .inl (va_cpy f g sp.toNatClampNeg dp.toNatClampNeg n.toNatClampNeg))) := by rw [← hT]; rfl
  have oq : ∀ q : Nat, q ≠ base + a → (H.setIfInBounds (base + a) (vp_cell (tc 0) (n1, .inl (va_cpy f g sp.toNatClampNeg dp.toNatClampNeg n.toNatClampNeg))))[q]? = H[q]? := fun q hq => by simp [Array.getElem?_setIfInBounds, Ne.symm hq]
  have sz : (H.setIfInBounds (base + a) (vp_cell (tc 0) (n1, .inl (va_cpy f g sp.toNatClampNeg dp.toNatClampNeg n.toNatClampNeg)))).size = H.size := by simp
  obtain ⟨t, a1, b1⟩ := kk2 _ _ ⟨wOK_set hw e1 (c1 := .inl (0, n1, .inl (va_cpy f g sp.toNatClampNeg dp.toNatClampNeg n.toNatClampNeg))) (show (H.setIfInBounds (base + a) _)[base + a]? = some _ by simp [Array.getElem?_setIfInBounds, hl]) sz oq, ⟨by rw [sz]; exact hS.1, fun q g1 g2 => by
      rw [oq q (fun e => g2 (by rw [e]; exact Nat.le_add_right _ _))]
      exact hS.2.1 q g1 g2, fun q hq => by
      rcases List.mem_append.mp hq with h | h
      · exact hS.2.2 q h
      · obtain ⟨z, -, hz⟩ := List.mem_map.mp h
        rw [← hz]
        exact Nat.le_add_right _ _⟩⟩ _ hheap X'
  exact ⟨t, step t a1, b1⟩
end ROW6
end
section
/-! one step of the machine is a step of the bytes -/
section INV
variable {σ : Type} {L len pc i : Nat} {l : mL} {st : List Value} {h : σ} {q : mR σ} {O : mO σ} {X : mX} {y : Nat} {off : Int}
theorem mGo_inv (hs : mGo L len pc l st h = some q) : len = L ∧ q = .inl (pc + L, l, st, h) := by
  unfold mGo at hs
  split at hs
  · next e => exact ⟨e, (Option.some.inj hs).symm⟩
  · cases hs
theorem mLd_inv {ok : Value → Bool} (hs : mLd L len pc l i st h ok = some q) : ∃ v, l[i]? = some (some v) ∧ ok v = true ∧ len = L ∧ q = .inl (pc + L, l, v :: st, h) := by
  unfold mLd at hs
  split at hs
  · next v e =>
    split at hs
    · next e2 => exact ⟨v, e, e2, mGo_inv hs⟩
    · cases hs
  · cases hs
theorem mStI_inv (hs : mStI L len pc l i st h = some q) : ∃ x r, st = .int x :: r ∧ i < l.length ∧ len = L ∧ q = .inl (pc + L, mSt1 l i (.int x), r, h) := by
  unfold mStI at hs
  split at hs
  · next x r =>
    split at hs
    · next e => exact ⟨x, r, rfl, e, mGo_inv hs⟩
    · cases hs
  · cases hs
theorem mStA_inv (hs : mStA L len pc l i st h = some q) : ∃ v r, st = v :: r ∧ (v = .null ∨ ∃ a, v = .ref a) ∧ i < l.length ∧ len = L ∧ q = .inl (pc + L, mSt1 l i v, r, h) := by
  unfold mStA at hs
  split at hs
  · next x r =>
    split at hs
    · next e => exact ⟨_, r, rfl, Or.inr ⟨x, rfl⟩, e, mGo_inv hs⟩
    · cases hs
  · next r =>
    split at hs
    · next e => exact ⟨_, r, rfl, Or.inl rfl, e, mGo_inv hs⟩
    · cases hs
  · cases hs
theorem mStL_inv (hs : mStL L len pc l i st h = some q) : ∃ x r, st = .long x :: r ∧ i + 1 < l.length ∧ len = L ∧ q = .inl (pc + L, mSt2 l i (.long x), r, h) := by
  unfold mStL at hs
  split at hs
  · next x r =>
    split at hs
    · next e => exact ⟨x, r, rfl, e, mGo_inv hs⟩
    · cases hs
  · cases hs
theorem mI1_inv {f : Int32 → Value} (hs : mI1 len pc l st h f = some q) : ∃ x r, st = .int x :: r ∧ len = 1 ∧ q = .inl (pc + 1, l, f x :: r, h) := by
  unfold mI1 at hs
  split at hs
  · next x r => exact ⟨x, r, rfl, mGo_inv hs⟩
  · cases hs
theorem mL1_inv {f : Int64 → Value} (hs : mL1 len pc l st h f = some q) : ∃ x r, st = .long x :: r ∧ len = 1 ∧ q = .inl (pc + 1, l, f x :: r, h) := by
  unfold mL1 at hs
  split at hs
  · next x r => exact ⟨x, r, rfl, mGo_inv hs⟩
  · cases hs
theorem mII_inv {f : Int32 → Int32 → Int32} (hs : mII len pc l st h f = some q) : ∃ x z r, st = .int z :: .int x :: r ∧ len = 1 ∧ q = .inl (pc + 1, l, .int (f x z) :: r, h) := by
  unfold mII at hs
  split at hs
  · next z x r => exact ⟨x, z, r, rfl, mGo_inv hs⟩
  · cases hs
theorem mIZ_inv {f : Int32 → Int32 → Int32} (hs : mIZ len pc l st h f = some q) : ∃ x z r, st = .int z :: .int x :: r ∧ ¬ z = 0 ∧ len = 1 ∧ q = .inl (pc + 1, l, .int (f x z) :: r, h) := by
  unfold mIZ at hs
  split at hs
  · next z x r =>
    split at hs
    · cases hs
    · next e => exact ⟨x, z, r, rfl, e, mGo_inv hs⟩
  · cases hs
theorem mLL_inv {f : Int64 → Int64 → Value} (hs : mLL len pc l st h f = some q) : ∃ x z r, st = .long z :: .long x :: r ∧ len = 1 ∧ q = .inl (pc + 1, l, f x z :: r, h) := by
  unfold mLL at hs
  split at hs
  · next z x r => exact ⟨x, z, r, rfl, mGo_inv hs⟩
  · cases hs
theorem mLZ_inv {f : Int64 → Int64 → Value} (hs : mLZ len pc l st h f = some q) : ∃ x z r, st = .long z :: .long x :: r ∧ ¬ z = 0 ∧ len = 1 ∧ q = .inl (pc + 1, l, f x z :: r, h) := by
  unfold mLZ at hs
  split at hs
  · next z x r =>
    split at hs
    · cases hs
    · next e => exact ⟨x, z, r, rfl, e, mGo_inv hs⟩
  · cases hs
theorem mLI_inv {f : Int64 → Int32 → Int64} (hs : mLI len pc l st h f = some q) : ∃ x z r, st = .int z :: .long x :: r ∧ len = 1 ∧ q = .inl (pc + 1, l, .long (f x z) :: r, h) := by
  unfold mLI at hs
  split at hs
  · next z x r => exact ⟨x, z, r, rfl, mGo_inv hs⟩
  · cases hs
theorem mTg_inv {t : Nat} (hs : mTg pc off = some t) : (pc : Int) + off = (t : Int) := by
  unfold mTg at hs
  split at hs
  · next e => rw [← Option.some.inj hs]; omega
  · cases hs
theorem mJp_inv {cb : Bool} (hs : mJp len pc l st h cb off = some q) : ∃ t : Nat, len = 3 ∧ (pc : Int) + off = (t : Int) ∧ q = .inl (if cb then t else pc + 3, l, st, h) := by
  unfold mJp at hs
  split at hs
  · next e =>
    split at hs
    · next t e2 => exact ⟨t, e, mTg_inv e2, (Option.some.inj hs).symm⟩
    · cases hs
  · cases hs
theorem mIf_inv {cc : ClassFile.Cond} (hs : mIf cc len pc l st h off = some q) : ∃ x r, st = .int x :: r ∧ ∃ t : Nat, len = 3 ∧ (pc : Int) + off = (t : Int) ∧ q = .inl (if mCb cc x 0 then t else pc + 3, l, r, h) := by
  unfold mIf at hs
  split at hs
  · next x r => exact ⟨x, r, rfl, mJp_inv hs⟩
  · cases hs
theorem mIc_inv {cc : ClassFile.Cond} (hs : mIc cc len pc l st h off = some q) : ∃ x z r, st = .int z :: .int x :: r ∧ ∃ t : Nat, len = 3 ∧ (pc : Int) + off = (t : Int) ∧ q = .inl (if mCb cc x z then t else pc + 3, l, r, h) := by
  unfold mIc at hs
  split at hs
  · next z x r => exact ⟨x, z, r, rfl, mJp_inv hs⟩
  · cases hs
theorem mNl_inv {w : Bool} (hs : mNl w len pc l st h off = some q) : (∃ r, st = .null :: r ∧ ∃ t : Nat, len = 3 ∧ (pc : Int) + off = (t : Int) ∧ q = .inl (if w then t else pc + 3, l, r, h)) ∨ ∃ a r, st = .ref a :: r ∧ ∃ t : Nat, len = 3 ∧ (pc : Int) + off = (t : Int) ∧ q = .inl (if (!w) then t else pc + 3, l, r, h) := by
  unfold mNl at hs
  split at hs
  · next r => exact Or.inl ⟨r, rfl, mJp_inv hs⟩
  · next a r => exact Or.inr ⟨a, r, rfl, mJp_inv hs⟩
  · cases hs
theorem mSw_inv {d lo hi : Int} {os : Array Int} (hs : mSw pc l st h d lo hi os = some q) : ∃ x r o, st = .int x :: r ∧ mSo d lo hi os x = some o ∧ ∃ t : Nat, (pc : Int) + o = (t : Int) ∧ q = .inl (t, l, r, h) := by
  unfold mSw at hs
  split at hs
  · next x r =>
    split at hs
    · next o e =>
      split at hs
      · next t e2 => exact ⟨x, r, o, rfl, e, t, mTg_inv e2, (Option.some.inj hs).symm⟩
      · cases hs
    · cases hs
  · cases hs
theorem mAl_inv {k : Nat} (hs : mAl O X k len pc l st h = some q) : ∃ j a r, st = .int j :: .ref a :: r ∧ len = 1 ∧ ((a = mSid ∧ k = 0 ∧ inb j (X.1 - 1) = true ∧ q = .inl (pc + 1, l, .int (X.2 j.toNatClampNeg) :: r, h)) ∨ ∃ v, O.ld h a k j = some v ∧ q = .inl (pc + 1, l, v :: r, h)) := by
  unfold mAl at hs
  split at hs
  · next j a r =>
    split at hs
    · next e =>
      split at hs
      · next e2 =>
        obtain ⟨g1, g2⟩ := mGo_inv hs
        exact ⟨j, a, r, rfl, g1, Or.inl ⟨e, e2.1, e2.2, g2⟩⟩
      · cases hs
    · split at hs
      · next v e2 =>
        obtain ⟨g1, g2⟩ := mGo_inv hs
        exact ⟨j, a, r, rfl, g1, Or.inr ⟨v, e2, g2⟩⟩
      · cases hs
  · cases hs
theorem mAs_inv {k : Nat} (hs : mAs O k len pc l st h = some q) : ∃ v j a r h1, st = v :: .int j :: .ref a :: r ∧ len = 1 ∧ O.st h a k j v = some h1 ∧ q = .inl (pc + 1, l, r, h1) := by
  unfold mAs at hs
  split at hs
  · next v j a r =>
    split at hs
    · next h1 e =>
      obtain ⟨g1, g2⟩ := mGo_inv hs
      exact ⟨v, j, a, r, h1, rfl, g1, e, g2⟩
    · cases hs
  · cases hs
theorem mAn_inv (hs : mAn O X len pc l st h = some q) : ∃ a r, st = .ref a :: r ∧ len = 1 ∧ ((a = mSid ∧ q = .inl (pc + 1, l, .int (Int32.ofNat (X.1 - 1)) :: r, h)) ∨ ∃ v, O.ln h a = some v ∧ q = .inl (pc + 1, l, .int v :: r, h)) := by
  unfold mAn at hs
  split at hs
  · next a r =>
    split at hs
    · next e =>
      split at hs
      · cases hs
      · obtain ⟨g1, g2⟩ := mGo_inv hs
        exact ⟨a, r, rfl, g1, Or.inl ⟨e, g2⟩⟩
    · split at hs
      · next v e2 =>
        obtain ⟨g1, g2⟩ := mGo_inv hs
        exact ⟨a, r, rfl, g1, Or.inr ⟨v, e2, g2⟩⟩
      · cases hs
  · cases hs
theorem mNa_inv {t : Nat} (hs : mNa O L t len pc l st h = some q) : ∃ n r z, st = .int n :: r ∧ O.na h t n = some z ∧ len = L ∧ q = .inl (pc + L, l, .ref z.2 :: r, z.1) := by
  unfold mNa at hs
  split at hs
  · next n r =>
    split at hs
    · next z e => exact ⟨n, r, z, rfl, e, mGo_inv hs⟩
    · cases hs
  · cases hs
theorem mGf_inv {idx : Nat} (hs : mGf O y len pc l st h idx = some q) : ∃ a r z v, st = .ref a :: r ∧ lk (mFt (mOwn y)) idx = some z ∧ O.gf h a z.1 z.2 = some v ∧ len = 3 ∧ q = .inl (pc + 3, l, v :: r, h) := by
  unfold mGf at hs
  split at hs
  · next a r =>
    split at hs
    · next z e =>
      split at hs
      · next v e2 => exact ⟨a, r, z, v, rfl, e, e2, mGo_inv hs⟩
      · cases hs
    · cases hs
  · cases hs
theorem mPf_inv {idx : Nat} (hs : mPf O y len pc l st h idx = some q) : ∃ v a r z h1, st = v :: .ref a :: r ∧ lk (mFt (mOwn y)) idx = some z ∧ (mFin z.1 z.2 && !(mIni y && (mOwn y == z.1))) = false ∧ O.pf h a z.1 z.2 v = some h1 ∧ len = 3 ∧ q = .inl (pc + 3, l, r, h1) := by
  unfold mPf at hs
  split at hs
  · next v a r =>
    split at hs
    · next z e =>
      split at hs
      · cases hs
      · next e3 =>
        split at hs
        · next h1 e2 => exact ⟨v, a, r, z, h1, rfl, e, by simpa using e3, e2, mGo_inv hs⟩
        · cases hs
    · cases hs
  · cases hs
theorem mNw_inv {idx : Nat} (hs : mNw O y len pc l st h idx = some q) : ∃ ci z, lk (mCt (mOwn y)) idx = some ci ∧ O.nw h ci = some z ∧ len = 3 ∧ q = .inl (pc + 3, l, .ref z.2 :: st, z.1) := by
  unfold mNw at hs
  split at hs
  · next ci e =>
    split at hs
    · next z e2 => exact ⟨ci, z, e, e2, mGo_inv hs⟩
    · cases hs
  · cases hs
theorem mCs_inv {idx : Nat} {w : Bool} (hs : mCs L len y pc l st h idx w = some q) : (w = false ∧ ∃ v, lk (mKt (mOwn y)) idx = some (.inl v) ∧ len = L ∧ q = .inl (pc + L, l, .int v :: st, h)) ∨ (w = true ∧ ∃ v, lk (mKt (mOwn y)) idx = some (.inr v) ∧ len = L ∧ q = .inl (pc + L, l, .long v :: st, h)) := by
  unfold mCs at hs
  split at hs
  · next v e =>
    split at hs
    · cases hs
    · next e2 => exact Or.inl ⟨by simpa using e2, v, e, mGo_inv hs⟩
  · next v e =>
    split at hs
    · next e2 => exact Or.inr ⟨e2, v, e, mGo_inv hs⟩
    · cases hs
  · cases hs
theorem mCv_inl {sp : Bool} {idx : Nat} {z : Nat × mL × List Value × σ} (hs : mCv O sp y len pc l st h idx = some (.inl z)) : sp = true ∧ mOt (mOwn y) idx = true ∧ mRo1 y = true ∧ ∃ a r, st = .ref a :: r ∧ mSm r = true ∧ len = 3 ∧ z = (pc + 3, l, r, h) := by
  unfold mCv at hs
  split at hs
  · split at hs
    · split at hs
      · cases hs
      · cases hs
    · cases hs
  · split at hs
    · next e =>
      simp only [Bool.and_eq_true] at e
      split at hs
      · next a r =>
        split at hs
        · next e2 =>
          obtain ⟨g1, g2⟩ := mGo_inv hs
          exact ⟨e.1.1, e.1.2, e.2, a, r, rfl, e2, g1, Sum.inl.inj g2⟩
        · cases hs
      · cases hs
    · cases hs
theorem mCi_inl {idx : Nat} {z : Nat × mL × List Value × σ} (hs : mCi O y len pc l st h idx = some (.inl z)) : (∃ k v w r, lk (mXq (mOwn y)) idx = some k ∧ mRx y = true ∧ st = .int w :: .int v :: r ∧ mSm r = true ∧ len = 3 ∧ z = (pc + 3, l, .int (if k.2 = true then (if v < w then w else v) else (if w < v then w else v)) :: r, h)) ∨ ∃ n dp a sp a0 r h1, mNt (mOwn y) idx = true ∧ mRn y = true ∧ st = .int n :: .int dp :: .ref a :: .int sp :: .ref a0 :: r ∧ mSm r = true ∧ O.cp h a0 sp a dp n = some h1 ∧ len = 3 ∧ z = (pc + 3, l, r, h1) := by
  unfold mCi at hs
  split at hs
  · split at hs
    · cases hs
    · cases hs
  · split at hs
    · next k e =>
      split at hs
      · next e1 =>
        split at hs
        · next w v r =>
          split at hs
          · next e2 =>
            obtain ⟨g1, g2⟩ := mGo_inv hs
            exact Or.inl ⟨k, v, w, r, e, e1, rfl, e2, g1, Sum.inl.inj g2⟩
          · cases hs
        · cases hs
      · cases hs
    · split at hs
      · next e =>
        simp only [Bool.and_eq_true] at e
        split at hs
        · next n dp a sp a0 r =>
          split at hs
          · next e2 =>
            split at hs
            · next h1 e3 =>
              obtain ⟨g1, g2⟩ := mGo_inv hs
              exact Or.inr ⟨n, dp, a, sp, a0, r, h1, e.1, e.2, rfl, e2, e3, g1, Sum.inl.inj g2⟩
            · cases hs
          · cases hs
        · cases hs
      · cases hs
theorem mSm_inv {r : List Value} (hs : mSm r = true) : (r.map fun v => v.category).sum ≤ 8 := by
  unfold mSm at hs
  exact of_decide_eq_true hs
end INV
section STEP7
variable {p : Program} {L : Launch} {e : Env} {R : Room} {s : State} {m : MethodId} {args : Array Value} {below : List Frame} {meth : Method} {c : Code} {H : Heap} {locs : List Loc} {cells slots : Nat} {Q : State → Prop}
variable {D : va_G} {tc : Nat → ClassId} {b base : Nat} {h : mH} {X : mX} {y pc : Nat} {ls : Array Slot} {l : mL} {st : List Value}
theorem lOK_size {n : Nat} (hl : lOK b base ls n l) : ls.size = n := by
  obtain ⟨-, lv, h1, -⟩ := hl
  exact h1.1
set_option maxHeartbeats 4000000 in
theorem step_ok (hc : cOK p R s m args meth c y) (hg : gOK D tc b X s) (hb1 : b < s.heap.size) (hb2 : ¬ base ≤ b) (hw : wOK D tc b base h H) (hS : va_S (fun q : Nat => base ≤ q) s.heap H locs) (hl : lOK b base ls (mMx y) l) {i : Instr} {len pc1 : Nat} {l1 : mL} {st1 : List Value} {h1 : mH} (hs : mIns oH X y pc len l st h i = some (.inl (pc1, l1, st1, h1))) (hd : decode (mCd y) pc = .ok (i, len)) (hR1 : cells + (h1.length - h.length) ≤ R.cells) (hR2 : slots + (hSz h1 - hSz h) ≤ R.slots)
    (kk : h.length ≤ h1.length → hSz h ≤ hSz h1 → ∀ H1 locs1 ls1, kOK D tc b base s.heap h1 H1 locs1 → lOK b base ls1 (mMx y) l1 → W p L e R s m args below meth c H1 locs1 (cells + (h1.length - h.length)) (slots + (hSz h1 - hSz h)) Q (F0 m pc1 ls1 (st1.map (cV b base)))) : W p L e R s m args below meth c H locs cells slots Q (F0 m pc ls (st.map (cV b base))) := by
  have hx := hc.1
  have hb := hc.2.1
  have hown := hc.2.2.2.2.1
  have hts := hc.2.2.2.2.2.1
  have k0 : h1 = h → ∀ ls1, lOK b base ls1 (mMx y) l1 → W p L e R s m args below meth c H locs cells slots Q (F0 m pc1 ls1 (st1.map (cV b base))) := by
    intro hh ls1 hl1
    subst hh
    have k := kk (Nat.le_refl _) (Nat.le_refl _) H locs ls1 ⟨hw, hS⟩ hl1
    simpa only [Nat.sub_self, Nat.add_zero] using k
  have ks : h1.length = h.length → hSz h1 = hSz h → ∀ H1 locs1 ls1, kOK D tc b base s.heap h1 H1 locs1 → lOK b base ls1 (mMx y) l1 → W p L e R s m args below meth c H1 locs1 cells slots Q (F0 m pc1 ls1 (st1.map (cV b base))) := by
    intro e1 e2 H1 locs1 ls1 g1 g2
    have k := kk (by omega) (by omega) H1 locs1 ls1 g1 g2
    rw [e1, e2] at k
    simpa only [Nat.sub_self, Nat.add_zero] using k
  cases i with
  | iconst n =>
    change mGo 1 len pc l (.int (Int32.ofInt n) :: st) h = _ at hs
    obtain ⟨rfl, hq⟩ := mGo_inv hs
    cases hq
    exact lv_iconst hx hb hd rfl (k0 rfl ls hl)
  | bipush n =>
    change mGo 2 len pc l (.int (Int8.ofInt n).toInt32 :: st) h = _ at hs
    obtain ⟨rfl, hq⟩ := mGo_inv hs
    cases hq
    exact lv_bipush hx hb hd rfl (k0 rfl ls hl)
  | sipush n =>
    change mGo 3 len pc l (.int (Int16.ofInt n).toInt32 :: st) h = _ at hs
    obtain ⟨rfl, hq⟩ := mGo_inv hs
    cases hq
    exact lv_sipush hx hb hd rfl (k0 rfl ls hl)
  | lconst n =>
    change mGo 1 len pc l (.long (Int64.ofNat (n : Nat)) :: st) h = _ at hs
    obtain ⟨rfl, hq⟩ := mGo_inv hs
    cases hq
    exact lv_lconst hx hb hd rfl (k0 rfl ls hl)
  | aconst_null =>
    change mGo 1 len pc l (.null :: st) h = _ at hs
    obtain ⟨rfl, hq⟩ := mGo_inv hs
    cases hq
    exact lv_null hx hb hd (k0 rfl ls hl)
  | ldc idx =>
    change mCs 2 len y pc l st h idx false = _ at hs
    rcases mCs_inv hs with ⟨-, v, e1, rfl, hq⟩ | ⟨hf, -⟩
    · cases hq
      exact lv_ldc hx hb hown (hts _ (mK_get e1)) hd (k0 rfl ls hl)
    · cases hf
  | ldc_w idx =>
    change mCs 3 len y pc l st h idx false = _ at hs
    rcases mCs_inv hs with ⟨-, v, e1, rfl, hq⟩ | ⟨hf, -⟩
    · cases hq
      exact lv_ldcw hx hb hown (hts _ (mK_get e1)) hd (k0 rfl ls hl)
    · cases hf
  | ldc2_w idx =>
    change mCs 3 len y pc l st h idx true = _ at hs
    rcases mCs_inv hs with ⟨hf, -⟩ | ⟨-, v, e1, rfl, hq⟩
    · cases hf
    · cases hq
      exact lv_ldc2 hx hb hown (hts _ (mK_get e1)) hd (k0 rfl ls hl)
  | iload_n k =>
    change mLd 1 len pc l k st h isI = _ at hs
    obtain ⟨v, e1, e2, rfl, hq⟩ := mLd_inv hs
    cases hq
    cases v with
    | int x => exact lv_iload_n hx hb hd rfl (lOK_at hl e1) (k0 rfl ls hl)
    | _ => cases e2
  | iload k =>
    change mLd 2 len pc l k st h isI = _ at hs
    obtain ⟨v, e1, e2, rfl, hq⟩ := mLd_inv hs
    cases hq
    cases v with
    | int x => exact lv_iload hx hb hd (lOK_at hl e1) (k0 rfl ls hl)
    | _ => cases e2
  | lload_n k =>
    change mLd 1 len pc l k st h isL = _ at hs
    obtain ⟨v, e1, e2, rfl, hq⟩ := mLd_inv hs
    cases hq
    cases v with
    | long x => exact lv_lload_n hx hb hd rfl (lOK_at hl e1) (k0 rfl ls hl)
    | _ => cases e2
  | lload k =>
    change mLd 2 len pc l k st h isL = _ at hs
    obtain ⟨v, e1, e2, rfl, hq⟩ := mLd_inv hs
    cases hq
    cases v with
    | long x => exact lv_lload hx hb hd (lOK_at hl e1) (k0 rfl ls hl)
    | _ => cases e2
  | aload_n k =>
    change mLd 1 len pc l k st h isA = _ at hs
    obtain ⟨v, e1, e2, rfl, hq⟩ := mLd_inv hs
    cases hq
    cases v with
    | ref x => exact lv_aload_n hx hb hd rfl (lOK_at hl e1) (k0 rfl ls hl)
    | null => exact lv_aload_nN hx hb hd rfl (lOK_at hl e1) (k0 rfl ls hl)
    | _ => cases e2
  | aload k =>
    change mLd 2 len pc l k st h isA = _ at hs
    obtain ⟨v, e1, e2, rfl, hq⟩ := mLd_inv hs
    cases hq
    cases v with
    | ref x => exact lv_aload hx hb hd (lOK_at hl e1) (k0 rfl ls hl)
    | null => exact lv_aloadN hx hb hd (lOK_at hl e1) (k0 rfl ls hl)
    | _ => cases e2
  | istore_n k =>
    change mStI 1 len pc l k st h = _ at hs
    obtain ⟨x, r, rfl, hi, rfl, hq⟩ := mStI_inv hs
    cases hq
    obtain ⟨hn, lv, h1, h2⟩ := hl
    exact lv_istore_n hx hb hd rfl h1 (by rw [← hn]; exact hi) rfl (fun ls1 hl1 => k0 rfl ls1 ⟨by rw [mSt1_len]; exact hn, _, hl1, fun _ _ z => mSt1_get h2 hi z⟩)
  | istore k =>
    change mStI 2 len pc l k st h = _ at hs
    obtain ⟨x, r, rfl, hi, rfl, hq⟩ := mStI_inv hs
    cases hq
    obtain ⟨hn, lv, h1, h2⟩ := hl
    exact lv_istore hx hb hd h1 (by rw [← hn]; exact hi) rfl (fun ls1 hl1 => k0 rfl ls1 ⟨by rw [mSt1_len]; exact hn, _, hl1, fun _ _ z => mSt1_get h2 hi z⟩)
  | lstore_n k =>
    change mStL 1 len pc l k st h = _ at hs
    obtain ⟨x, r, rfl, hi, rfl, hq⟩ := mStL_inv hs
    cases hq
    obtain ⟨hn, lv, h1, h2⟩ := hl
    exact lv_lstore_n hx hb hd rfl h1 (by rw [← hn]; exact hi) rfl (fun ls1 hl1 => k0 rfl ls1 ⟨by rw [mSt2_len]; exact hn, _, hl1, fun _ _ z => mSt2_get h2 hi z⟩)
  | lstore k =>
    change mStL 2 len pc l k st h = _ at hs
    obtain ⟨x, r, rfl, hi, rfl, hq⟩ := mStL_inv hs
    cases hq
    obtain ⟨hn, lv, h1, h2⟩ := hl
    exact lv_lstore hx hb hd h1 (by rw [← hn]; exact hi) rfl (fun ls1 hl1 => k0 rfl ls1 ⟨by rw [mSt2_len]; exact hn, _, hl1, fun _ _ z => mSt2_get h2 hi z⟩)
  | astore_n k =>
    change mStA 1 len pc l k st h = _ at hs
    obtain ⟨v, r, rfl, hv, hi, rfl, hq⟩ := mStA_inv hs
    cases hq
    obtain ⟨hn, lv, h1, h2⟩ := hl
    rcases hv with rfl | ⟨a, rfl⟩
    · exact lv_astore_nN hx hb hd rfl h1 (by rw [← hn]; exact hi) rfl (fun ls1 hl1 => k0 rfl ls1 ⟨by rw [mSt1_len]; exact hn, _, hl1, fun _ _ z => mSt1_get h2 hi z⟩)
    · exact lv_astore_n hx hb hd rfl h1 (by rw [← hn]; exact hi) rfl (fun ls1 hl1 => k0 rfl ls1 ⟨by rw [mSt1_len]; exact hn, _, hl1, fun _ _ z => mSt1_get h2 hi z⟩)
  | astore k =>
    change mStA 2 len pc l k st h = _ at hs
    obtain ⟨v, r, rfl, hv, hi, rfl, hq⟩ := mStA_inv hs
    cases hq
    obtain ⟨hn, lv, h1, h2⟩ := hl
    rcases hv with rfl | ⟨a, rfl⟩
    · exact lv_astoreN hx hb hd h1 (by rw [← hn]; exact hi) rfl (fun ls1 hl1 => k0 rfl ls1 ⟨by rw [mSt1_len]; exact hn, _, hl1, fun _ _ z => mSt1_get h2 hi z⟩)
    · exact lv_astore hx hb hd h1 (by rw [← hn]; exact hi) rfl (fun ls1 hl1 => k0 rfl ls1 ⟨by rw [mSt1_len]; exact hn, _, hl1, fun _ _ z => mSt1_get h2 hi z⟩)
  | iinc k n =>
    change (match l[k]? with | some (some (.int x)) => mGo 3 len pc (mSt1 l k (.int (x + Int32.ofInt n))) st h | _ => none) = _ at hs
    split at hs
    case h_2 => cases hs
    next x e1 =>
    obtain ⟨rfl, hq⟩ := mGo_inv hs
    cases hq
    obtain ⟨hn, lv, h1, h2⟩ := hl
    have hi : k < l.length := (List.getElem?_eq_some_iff.mp e1).1
    obtain ⟨j, hj⟩ := List.getElem?_of_mem (h2 _ _ e1)
    exact lv_iinc hx hb hd h1 hj rfl (by rw [← hn]; exact hi) rfl (fun ls1 hl1 => k0 rfl ls1 ⟨by rw [mSt1_len]; exact hn, _, hl1, fun _ _ z => mSt1_get h2 hi z⟩)
  | iadd =>
    change mII len pc l st h (fun x y => x + y) = _ at hs
    obtain ⟨x, z, r, rfl, rfl, hq⟩ := mII_inv hs
    cases hq
    exact lv_iadd hx hb hd (k0 rfl ls hl)
  | isub =>
    change mII len pc l st h (fun x y => x - y) = _ at hs
    obtain ⟨x, z, r, rfl, rfl, hq⟩ := mII_inv hs
    cases hq
    exact lv_isub hx hb hd (k0 rfl ls hl)
  | imul =>
    change mII len pc l st h (fun x y => x * y) = _ at hs
    obtain ⟨x, z, r, rfl, rfl, hq⟩ := mII_inv hs
    cases hq
    exact lv_imul hx hb hd (k0 rfl ls hl)
  | iand =>
    change mII len pc l st h (fun x y => x &&& y) = _ at hs
    obtain ⟨x, z, r, rfl, rfl, hq⟩ := mII_inv hs
    cases hq
    exact lv_iand hx hb hd (k0 rfl ls hl)
  | ior =>
    change mII len pc l st h (fun x y => x ||| y) = _ at hs
    obtain ⟨x, z, r, rfl, rfl, hq⟩ := mII_inv hs
    cases hq
    exact lv_ior hx hb hd (k0 rfl ls hl)
  | ixor =>
    change mII len pc l st h (fun x y => x ^^^ y) = _ at hs
    obtain ⟨x, z, r, rfl, rfl, hq⟩ := mII_inv hs
    cases hq
    exact lv_ixor hx hb hd (k0 rfl ls hl)
  | ishl =>
    change mII len pc l st h (fun x y => x <<< (y &&& 31)) = _ at hs
    obtain ⟨x, z, r, rfl, rfl, hq⟩ := mII_inv hs
    cases hq
    exact lv_ishl hx hb hd (k0 rfl ls hl)
  | ishr =>
    change mII len pc l st h (fun x y => x >>> (y &&& 31)) = _ at hs
    obtain ⟨x, z, r, rfl, rfl, hq⟩ := mII_inv hs
    cases hq
    exact lv_ishr hx hb hd (k0 rfl ls hl)
  | iushr =>
    change mII len pc l st h (fun x y => (x.toUInt32 >>> (y.toUInt32 &&& Int32.toUInt32 31)).toInt32) = _ at hs
    obtain ⟨x, z, r, rfl, rfl, hq⟩ := mII_inv hs
    cases hq
    exact lv_iushr hx hb hd rfl (k0 rfl ls hl)
  | idiv =>
    change mIZ len pc l st h (fun x y => x / y) = _ at hs
    obtain ⟨x, z, r, rfl, hz, rfl, hq⟩ := mIZ_inv hs
    cases hq
    exact lv_idiv hx hb hd hz (k0 rfl ls hl)
  | irem =>
    change mIZ len pc l st h (fun x y => x - x / y * y) = _ at hs
    obtain ⟨x, z, r, rfl, hz, rfl, hq⟩ := mIZ_inv hs
    cases hq
    exact lv_irem hx hb hd hz (k0 rfl ls hl)
  | ineg =>
    change mI1 len pc l st h (fun x => .int (-x)) = _ at hs
    obtain ⟨x, r, rfl, rfl, hq⟩ := mI1_inv hs
    cases hq
    exact lv_ineg hx hb hd (k0 rfl ls hl)
  | ladd =>
    change mLL len pc l st h (fun x y => .long (x + y)) = _ at hs
    obtain ⟨x, z, r, rfl, rfl, hq⟩ := mLL_inv hs
    cases hq
    exact lv_ladd hx hb hd (k0 rfl ls hl)
  | lsub =>
    change mLL len pc l st h (fun x y => .long (x - y)) = _ at hs
    obtain ⟨x, z, r, rfl, rfl, hq⟩ := mLL_inv hs
    cases hq
    exact lv_lsub hx hb hd (k0 rfl ls hl)
  | lmul =>
    change mLL len pc l st h (fun x y => .long (x * y)) = _ at hs
    obtain ⟨x, z, r, rfl, rfl, hq⟩ := mLL_inv hs
    cases hq
    exact lv_lmul hx hb hd (k0 rfl ls hl)
  | land =>
    change mLL len pc l st h (fun x y => .long (x &&& y)) = _ at hs
    obtain ⟨x, z, r, rfl, rfl, hq⟩ := mLL_inv hs
    cases hq
    exact lv_land hx hb hd (k0 rfl ls hl)
  | lor =>
    change mLL len pc l st h (fun x y => .long (x ||| y)) = _ at hs
    obtain ⟨x, z, r, rfl, rfl, hq⟩ := mLL_inv hs
    cases hq
    exact lv_lor hx hb hd (k0 rfl ls hl)
  | lcmp =>
    change mLL len pc l st h (fun x y => .int (lg_cmp x y)) = _ at hs
    obtain ⟨x, z, r, rfl, rfl, hq⟩ := mLL_inv hs
    cases hq
    exact W.lcmp hx hb hd (k0 rfl ls hl)
  | ldiv =>
    change mLZ len pc l st h (fun x y => .long (x / y)) = _ at hs
    obtain ⟨x, z, r, rfl, hz, rfl, hq⟩ := mLZ_inv hs
    cases hq
    exact lv_ldiv hx hb hd hz (k0 rfl ls hl)
  | lrem =>
    change mLZ len pc l st h (fun x y => .long (x - x / y * y)) = _ at hs
    obtain ⟨x, z, r, rfl, hz, rfl, hq⟩ := mLZ_inv hs
    cases hq
    exact lv_lrem hx hb hd hz (k0 rfl ls hl)
  | lshl =>
    change mLI len pc l st h (fun x y => x <<< (y.toInt64 &&& 63)) = _ at hs
    obtain ⟨x, z, r, rfl, rfl, hq⟩ := mLI_inv hs
    cases hq
    exact lv_lshl hx hb hd rfl (k0 rfl ls hl)
  | lshr =>
    change mLI len pc l st h (fun x y => x >>> (y.toInt64 &&& 63)) = _ at hs
    obtain ⟨x, z, r, rfl, rfl, hq⟩ := mLI_inv hs
    cases hq
    exact lv_lshr hx hb hd rfl (k0 rfl ls hl)
  | lushr =>
    change mLI len pc l st h (fun x y => (x.toUInt64 >>> (y.toInt64.toUInt64 &&& Int64.toUInt64 63)).toInt64) = _ at hs
    obtain ⟨x, z, r, rfl, rfl, hq⟩ := mLI_inv hs
    cases hq
    exact lv_lushr hx hb hd rfl (k0 rfl ls hl)
  | i2l =>
    change mI1 len pc l st h (fun x => .long x.toInt64) = _ at hs
    obtain ⟨x, r, rfl, rfl, hq⟩ := mI1_inv hs
    cases hq
    exact lv_i2l hx hb hd rfl (k0 rfl ls hl)
  | i2b =>
    change mI1 len pc l st h (fun x => .int x.toInt8.toInt32) = _ at hs
    obtain ⟨x, r, rfl, rfl, hq⟩ := mI1_inv hs
    cases hq
    exact lv_i2b hx hb hd rfl (k0 rfl ls hl)
  | i2c =>
    change mI1 len pc l st h (fun x => .int (x.toUInt32 % 65536).toInt32) = _ at hs
    obtain ⟨x, r, rfl, rfl, hq⟩ := mI1_inv hs
    cases hq
    exact lv_i2c hx hb hd rfl (k0 rfl ls hl)
  | l2i =>
    change mL1 len pc l st h (fun x => .int x.toInt32) = _ at hs
    obtain ⟨x, r, rfl, rfl, hq⟩ := mL1_inv hs
    cases hq
    exact lv_l2i hx hb hd rfl (k0 rfl ls hl)
  | dup =>
    change (match st with | v :: r => if v.category = 1 then mGo 1 len pc l (v :: v :: r) h else none | _ => none) = _ at hs
    split at hs
    case h_2 => cases hs
    next v  r =>
    split at hs
    case isFalse => cases hs
    next e2 =>
    obtain ⟨rfl, hq⟩ := mGo_inv hs
    cases hq
    exact lv_dup hx hb hd (by rw [cV_cat]; exact e2) (k0 rfl ls hl)
  | dup2 =>
    change (match st with | v :: w :: r => if v.category = 1 ∧ w.category = 1 then mGo 1 len pc l (v :: w :: v :: w :: r) h else none | _ => none) = _ at hs
    split at hs
    case h_2 => cases hs
    next v  w  r =>
    split at hs
    case isFalse => cases hs
    next e2 =>
    obtain ⟨rfl, hq⟩ := mGo_inv hs
    cases hq
    exact lv_dup2_11 hx hb hd (by rw [cV_cat]; exact e2.1) (by rw [cV_cat]; exact e2.2) (k0 rfl ls hl)
  | pop =>
    change (match st with | v :: r => if v.category = 1 then mGo 1 len pc l (r) h else none | _ => none) = _ at hs
    split at hs
    case h_2 => cases hs
    next v  r =>
    split at hs
    case isFalse => cases hs
    next e2 =>
    obtain ⟨rfl, hq⟩ := mGo_inv hs
    cases hq
    exact lv_pop hx hb hd (by rw [cV_cat]; exact e2) (k0 rfl ls hl)
  | ifCond cc off =>
    change mIf cc len pc l st h off = _ at hs
    obtain ⟨x, r, rfl, t, rfl, ht, hq⟩ := mIf_inv hs
    cases hq
    have k := k0 rfl ls hl
    cases cc with
    | eq => exact lv_if_eq hx hb hd ht (fun hh => (by rw [if_pos (show mCb .eq x 0 = true from decide_eq_true hh)] at k; exact k)) (fun hh => (by rw [if_neg (show ¬ mCb .eq x 0 = true from fun q => hh (of_decide_eq_true q))] at k; exact k))
    | ne => exact lv_if_ne hx hb hd ht (fun hh => (by rw [if_pos (show mCb .ne x 0 = true from decide_eq_true hh)] at k; exact k)) (fun hh => (by rw [if_neg (show ¬ mCb .ne x 0 = true from fun q => (of_decide_eq_true q) hh)] at k; exact k))
    | lt => exact lv_if_lt hx hb hd ht (fun hh => (by rw [if_pos (show mCb .lt x 0 = true from decide_eq_true hh)] at k; exact k)) (fun hh => (by rw [if_neg (show ¬ mCb .lt x 0 = true from fun q => hh (of_decide_eq_true q))] at k; exact k))
    | ge => exact lv_if_ge hx hb hd ht (fun hh => (by rw [if_pos (show mCb .ge x 0 = true from decide_eq_true hh)] at k; exact k)) (fun hh => (by rw [if_neg (show ¬ mCb .ge x 0 = true from fun q => hh (of_decide_eq_true q))] at k; exact k))
    | gt => exact lv_if_gt hx hb hd ht (fun hh => (by rw [if_pos (show mCb .gt x 0 = true from decide_eq_true hh)] at k; exact k)) (fun hh => (by rw [if_neg (show ¬ mCb .gt x 0 = true from fun q => hh (of_decide_eq_true q))] at k; exact k))
    | le => exact lv_if_le hx hb hd ht (fun hh => (by rw [if_pos (show mCb .le x 0 = true from decide_eq_true hh)] at k; exact k)) (fun hh => (by rw [if_neg (show ¬ mCb .le x 0 = true from fun q => hh (of_decide_eq_true q))] at k; exact k))
  | if_icmp cc off =>
    change mIc cc len pc l st h off = _ at hs
    obtain ⟨x, z, r, rfl, t, rfl, ht, hq⟩ := mIc_inv hs
    cases hq
    have k := k0 rfl ls hl
    cases cc with
    | eq => exact lv_icmp_eq hx hb hd ht (fun hh => (by rw [if_pos (show mCb .eq x z = true from decide_eq_true hh)] at k; exact k)) (fun hh => (by rw [if_neg (show ¬ mCb .eq x z = true from fun q => hh (of_decide_eq_true q))] at k; exact k))
    | ne => exact lv_icmp_ne hx hb hd ht (fun hh => (by rw [if_pos (show mCb .ne x z = true from decide_eq_true hh)] at k; exact k)) (fun hh => (by rw [if_neg (show ¬ mCb .ne x z = true from fun q => (of_decide_eq_true q) hh)] at k; exact k))
    | lt => exact lv_icmp_lt hx hb hd ht (fun hh => (by rw [if_pos (show mCb .lt x z = true from decide_eq_true hh)] at k; exact k)) (fun hh => (by rw [if_neg (show ¬ mCb .lt x z = true from fun q => hh (of_decide_eq_true q))] at k; exact k))
    | ge => exact lv_icmp_ge hx hb hd ht (fun hh => (by rw [if_pos (show mCb .ge x z = true from decide_eq_true hh)] at k; exact k)) (fun hh => (by rw [if_neg (show ¬ mCb .ge x z = true from fun q => hh (of_decide_eq_true q))] at k; exact k))
    | gt => exact lv_icmp_gt hx hb hd ht (fun hh => (by rw [if_pos (show mCb .gt x z = true from decide_eq_true hh)] at k; exact k)) (fun hh => (by rw [if_neg (show ¬ mCb .gt x z = true from fun q => hh (of_decide_eq_true q))] at k; exact k))
    | le => exact lv_icmp_le hx hb hd ht (fun hh => (by rw [if_pos (show mCb .le x z = true from decide_eq_true hh)] at k; exact k)) (fun hh => (by rw [if_neg (show ¬ mCb .le x z = true from fun q => hh (of_decide_eq_true q))] at k; exact k))
  | ifnull off =>
    change mNl true len pc l st h off = _ at hs
    rcases mNl_inv hs with ⟨r, rfl, t, rfl, ht, hq⟩ | ⟨a, r, rfl, t, rfl, ht, hq⟩
    · cases hq
      exact lv_ifnullN hx hb hd ht (k0 rfl ls hl)
    · cases hq
      exact lv_ifnull hx hb hd (k0 rfl ls hl)
  | ifnonnull off =>
    change mNl false len pc l st h off = _ at hs
    rcases mNl_inv hs with ⟨r, rfl, t, rfl, ht, hq⟩ | ⟨a, r, rfl, t, rfl, ht, hq⟩
    · cases hq
      exact lv_ifnonnullN hx hb hd (k0 rfl ls hl)
    · cases hq
      exact lv_ifnonnull hx hb hd ht (k0 rfl ls hl)
  | goto off =>
    change mJp len pc l st h true off = _ at hs
    obtain ⟨t, rfl, ht, hq⟩ := mJp_inv hs
    cases hq
    exact lv_goto hx hb hd ht (k0 rfl ls hl)
  | tableswitch d lo hi os =>
    change mSw pc l st h d lo hi os = _ at hs
    obtain ⟨x, r, o, rfl, ho, t, ht, hq⟩ := mSw_inv hs
    cases hq
    unfold mSo at ho
    split at ho
    · next hh =>
      cases ho
      exact lv_tableOut hx hb hd hh ht (k0 rfl ls hl)
    · next hh =>
      exact lv_tableIn hx hb hd (fun z => hh (Or.inl z)) (fun z => hh (Or.inr z)) ho ht (k0 rfl ls hl)
  | iaload =>
    change mAl oH X 0 len pc l st h = _ at hs
    obtain ⟨j, a, r, rfl, rfl, ⟨ea, hk0, hin, hq⟩ | ⟨v, hv, hq⟩⟩ := mAl_inv hs
    · cases hq
      subst ea
      rw [show ((.int j :: .ref mSid :: r : List Value).map (cV b base)) = .int j :: .ref b :: r.map (cV b base) from by simp [cV, cAd]]
      exact va_sld hx hb hg.2.2.2.2 hb1 hb2 hS (inb_in hin) hd (k0 rfl ls hl)
    · cases hq
      exact r_ald hc hg hw (Or.inl rfl) hv hd (k0 rfl ls hl)
  | baload =>
    change mAl oH X 1 len pc l st h = _ at hs
    obtain ⟨j, a, r, rfl, rfl, ⟨ea, hk0, hin, hq⟩ | ⟨v, hv, hq⟩⟩ := mAl_inv hs
    · cases hk0
    · cases hq
      exact r_ald hc hg hw (Or.inr (Or.inl rfl)) hv hd (k0 rfl ls hl)
  | caload =>
    change mAl oH X 2 len pc l st h = _ at hs
    obtain ⟨j, a, r, rfl, rfl, ⟨ea, hk0, hin, hq⟩ | ⟨v, hv, hq⟩⟩ := mAl_inv hs
    · cases hk0
    · cases hq
      exact r_ald hc hg hw (Or.inr (Or.inr (Or.inl rfl))) hv hd (k0 rfl ls hl)
  | aaload =>
    change mAl oH X 3 len pc l st h = _ at hs
    obtain ⟨j, a, r, rfl, rfl, ⟨ea, hk0, hin, hq⟩ | ⟨v, hv, hq⟩⟩ := mAl_inv hs
    · cases hk0
    · cases hq
      exact r_ald hc hg hw (Or.inr (Or.inr (Or.inr rfl))) hv hd (k0 rfl ls hl)
  | iastore =>
    change mAs oH 0 len pc l st h = _ at hs
    obtain ⟨v, j, a, r, h2, rfl, rfl, hv, hq⟩ := mAs_inv hs
    cases hq
    exact r_ast hc hg hw hS (Or.inl rfl) hv hd (fun g1 g2 H1 locs1 g3 => ks g1 g2 H1 locs1 ls g3 hl)
  | bastore =>
    change mAs oH 1 len pc l st h = _ at hs
    obtain ⟨v, j, a, r, h2, rfl, rfl, hv, hq⟩ := mAs_inv hs
    cases hq
    exact r_ast hc hg hw hS (Or.inr (Or.inl rfl)) hv hd (fun g1 g2 H1 locs1 g3 => ks g1 g2 H1 locs1 ls g3 hl)
  | castore =>
    change mAs oH 2 len pc l st h = _ at hs
    obtain ⟨v, j, a, r, h2, rfl, rfl, hv, hq⟩ := mAs_inv hs
    cases hq
    exact r_ast hc hg hw hS (Or.inr (Or.inr (Or.inl rfl))) hv hd (fun g1 g2 H1 locs1 g3 => ks g1 g2 H1 locs1 ls g3 hl)
  | aastore =>
    change mAs oH 3 len pc l st h = _ at hs
    obtain ⟨v, j, a, r, h2, rfl, rfl, hv, hq⟩ := mAs_inv hs
    cases hq
    exact r_ast hc hg hw hS (Or.inr (Or.inr (Or.inr rfl))) hv hd (fun g1 g2 H1 locs1 g3 => ks g1 g2 H1 locs1 ls g3 hl)
  | arraylength =>
    change mAn oH X len pc l st h = _ at hs
    obtain ⟨a, r, rfl, rfl, ⟨ea, hq⟩ | ⟨v, hv, hq⟩⟩ := mAn_inv hs
    · cases hq
      subst ea
      rw [show ((.ref mSid :: r : List Value).map (cV b base)) = .ref b :: r.map (cV b base) from by simp [cV, cAd]]
      exact va_slen hx hb hg.2.2.2.2 hb1 hb2 hS hd (k0 rfl ls hl)
    · cases hq
      exact r_alen hc hg hw hv hd (k0 rfl ls hl)
  | newarray at1 =>
    cases at1 with
    | int =>
      change mNa oH 2 0 len pc l st h = _ at hs
      obtain ⟨n, r, z, rfl, hv, rfl, hq⟩ := mNa_inv hs
      cases hq
      have ez : z.1.length = h.length + 1 → z.1.length - h.length = 1 := fun q => by omega
      have el : z.1.length = h.length + 1 := by
        have hv2 : hNa h 0 n = some z := hv
        unfold hNa at hv2
        split at hv2
        · cases hv2; simp
        · cases hv2
      rw [ez el] at hR1
      exact r_newa hc hg hw hS (Or.inl rfl) hv hd hR1 hR2 (fun g1 g2 H1 g3 => by have k := kk (by omega) g2 H1 locs ls g3 hl; rw [ez el] at k; exact k)
    | boolean =>
      change mNa oH 2 1 len pc l st h = _ at hs
      obtain ⟨n, r, z, rfl, hv, rfl, hq⟩ := mNa_inv hs
      cases hq
      have ez : z.1.length = h.length + 1 → z.1.length - h.length = 1 := fun q => by omega
      have el : z.1.length = h.length + 1 := by
        have hv2 : hNa h 1 n = some z := hv
        unfold hNa at hv2
        split at hv2
        · cases hv2; simp
        · cases hv2
      rw [ez el] at hR1
      exact r_newa hc hg hw hS (Or.inr (Or.inl rfl)) hv hd hR1 hR2 (fun g1 g2 H1 g3 => by have k := kk (by omega) g2 H1 locs ls g3 hl; rw [ez el] at k; exact k)
    | char =>
      change mNa oH 2 2 len pc l st h = _ at hs
      obtain ⟨n, r, z, rfl, hv, rfl, hq⟩ := mNa_inv hs
      cases hq
      have ez : z.1.length = h.length + 1 → z.1.length - h.length = 1 := fun q => by omega
      have el : z.1.length = h.length + 1 := by
        have hv2 : hNa h 2 n = some z := hv
        unfold hNa at hv2
        split at hv2
        · cases hv2; simp
        · cases hv2
      rw [ez el] at hR1
      exact r_newa hc hg hw hS (Or.inr (Or.inr (Or.inl rfl))) hv hd hR1 hR2 (fun g1 g2 H1 g3 => by have k := kk (by omega) g2 H1 locs ls g3 hl; rw [ez el] at k; exact k)
    | byte =>
      change mNa oH 2 3 len pc l st h = _ at hs
      obtain ⟨n, r, z, rfl, hv, rfl, hq⟩ := mNa_inv hs
      cases hq
      have ez : z.1.length = h.length + 1 → z.1.length - h.length = 1 := fun q => by omega
      have el : z.1.length = h.length + 1 := by
        have hv2 : hNa h 3 n = some z := hv
        unfold hNa at hv2
        split at hv2
        · cases hv2; simp
        · cases hv2
      rw [ez el] at hR1
      exact r_newa hc hg hw hS (Or.inr (Or.inr (Or.inr rfl))) hv hd hR1 hR2 (fun g1 g2 H1 g3 => by have k := kk (by omega) g2 H1 locs ls g3 hl; rw [ez el] at k; exact k)
    | _ => cases hs
  | anewarray idx =>
    change (if mAt (mOwn y) idx then mNa oH 3 4 len pc l st h else none) = _ at hs
    split at hs
    case isFalse => cases hs
    next hat =>
    obtain ⟨n, r, z, rfl, hv, rfl, hq⟩ := mNa_inv hs
    cases hq
    have el : z.1.length = h.length + 1 := by
      have hv2 : hNa h 4 n = some z := hv
      unfold hNa at hv2
      split at hv2
      · cases hv2; simp
      · cases hv2
    have ez : z.1.length - h.length = 1 := by omega
    rw [ez] at hR1
    exact r_anew hc hg hw hS hat hv hd hR1 hR2 (fun g1 g2 H1 g3 => by have k := kk (by omega) g2 H1 locs ls g3 hl; rw [ez] at k; exact k)
  | getfield idx =>
    change mGf oH y len pc l st h idx = _ at hs
    obtain ⟨a, r, z, v, rfl, hf, hv, rfl, hq⟩ := mGf_inv hs
    cases hq
    exact r_getf hc hg hw hf hv hd (k0 rfl ls hl)
  | putfield idx =>
    change mPf oH y len pc l st h idx = _ at hs
    obtain ⟨v, a, r, z, h2, rfl, hf, hfin, hv, rfl, hq⟩ := mPf_inv hs
    cases hq
    exact r_putf hc hg hw hS hf hfin hv hd (fun g1 g2 H1 locs1 g3 => ks g1 g2 H1 locs1 ls g3 hl)
  | new idx =>
    change mNw oH y len pc l st h idx = _ at hs
    obtain ⟨ci, z, hf, hv, rfl, hq⟩ := mNw_inv hs
    cases hq
    have el : z.1.length = h.length + 1 := by
      have hv2 : hNw h ci = some z := hv
      unfold hNw at hv2
      split at hv2
      · split at hv2
        · cases hv2; simp
        · cases hv2
      · cases hv2
    have ez : z.1.length - h.length = 1 := by omega
    rw [ez] at hR1
    exact r_new hc hg hw hS hf hv hd hR1 hR2 (fun g1 g2 H1 g3 => by have k := kk (by omega) g2 H1 locs ls g3 hl; rw [ez] at k; exact k)
  | invokevirtual idx =>
    change mCv oH false y len pc l st h idx = _ at hs
    obtain ⟨hf, -⟩ := mCv_inl hs
    cases hf
  | invokespecial idx =>
    change mCv oH true y len pc l st h idx = _ at hs
    obtain ⟨-, ho, hr, a, r, rfl, hsm, rfl, hq⟩ := mCv_inl hs
    cases hq
    simp only [mRo1, Bool.and_eq_true, decide_eq_true_eq] at hr
    have hsm2 := mSm_inv hsm
    refine W.objInit hx hb hown (hts _ (mO_get ho)) (hts _ (lw_in mOb_w.2 rfl)) (hts _ (lw_in mOb_w.1 rfl)) rfl (by rw [hc.2.2.1]; exact lOK_size hl) rfl hd (by have := hc.2.2.2.2.2.2.2.1; omega) ?_ ?_
    · have := hc.2.2.2.2.2.2.2.2
      rw [cV_sum]
      show 2 * 0 + _ + 12 ≤ _
      omega
    · exact W.eq (g2 := F0 m (pc + 3) ls (st1.map (cV b base))) rfl (k0 rfl ls hl)
  | invokestatic idx =>
    change mCi oH y len pc l st h idx = _ at hs
    rcases mCi_inl hs with ⟨k1, v, w, r, e1, hr, rfl, hsm, rfl, hq⟩ | ⟨n, dp, a, sp, a0, r, h2, ho, hr, rfl, hsm, hv, rfl, hq⟩
    · cases hq
      simp only [mRx, Bool.and_eq_true, decide_eq_true_eq] at hr
      have hsm2 := mSm_inv hsm
      have f1 := hc.2.2.2.2.2.2.2.1
      have f2 := hc.2.2.2.2.2.2.2.2
      have hlk := mX_get e1
      have k := k0 rfl ls hl
      have hcl : cells ≤ R.cells := by omega
      have hsl : slots ≤ R.slots := by omega
      by_cases hk : k1.2 = true
      · rw [if_pos hk] at hlk
        rw [if_pos hk] at k
        exact va_mmax hx hb (by rw [hc.2.2.1]; exact (lOK_size hl).symm) hown (hts _ hlk) (hts _ (lw_in mMa_w.2.1 rfl)) (hts _ (lw_in mMa_w.2.2 rfl)) (hts _ (lw_in mMa_max rfl)) (by omega) (by rw [cV_sum]; omega) hcl hsl hd k
      · rw [if_neg hk] at hlk
        rw [if_neg hk] at k
        exact va_mmin hx hb (by rw [hc.2.2.1]; exact (lOK_size hl).symm) hown (hts _ hlk) (hts _ (lw_in mMa_w.1 rfl)) (hts _ (lw_in mMa_w.2.2 rfl)) (hts _ (lw_in mMa_min rfl)) (by omega) (by rw [cV_sum]; omega) hcl hsl hd k
    · cases hq
      exact r_copy hc hg hw hS (lOK_size hl) ho hr (by rw [cV_sum]; exact mSm_inv hsm) hv hd (fun g1 g2 H1 locs1 g3 => ks g1 g2 H1 locs1 ls g3 hl)
  | ireturn =>
    simp only [mIns] at hs
    split at hs
    · split at hs <;> cases hs
    · cases hs
  | lreturn =>
    simp only [mIns] at hs
    split at hs
    · split at hs <;> cases hs
    · cases hs
  | areturn =>
    simp only [mIns] at hs
    split at hs
    · split at hs <;> cases hs
    · split at hs <;> cases hs
    · cases hs
  | return_ =>
    simp only [mIns] at hs
    split at hs
    · split at hs <;> cases hs
    · cases hs
  | _ => first | (cases hs; done) | (simp [mIns] at hs; done)
end STEP7
end
section
/-! a run of the machine is a run of the bytes -/
theorem hPf_sz {h h1 : mH} {a ci k : Nat} {v : Value} (hv : hPf h a ci k v = some h1) : h.length ≤ h1.length ∧ hSz h ≤ hSz h1 := by
  unfold hPf at hv
  split at hv
  · next c fs e =>
    split at hv
    · cases hv; exact ⟨by simp, Nat.le_of_eq (hSz_set h a _ _ e (by simp [hSz1])).symm⟩
    · cases hv
  · cases hv
theorem hSt_sz {h h1 : mH} {a k : Nat} {i : Int32} {v : Value} (hv : hSt h a k i v = some h1) : h.length ≤ h1.length ∧ hSz h ≤ hSz h1 := by
  unfold hSt at hv
  split at hv
  · next t n f x e =>
    split at hv
    · cases hv; exact ⟨by simp, Nat.le_of_eq (hSz_set h a _ _ e (by simp [hSz1])).symm⟩
    · cases hv
  · next t n g b e =>
    split at hv
    · split at hv
      · split at hv
        · cases hv; exact ⟨by simp, Nat.le_of_eq (hSz_set h a _ _ e (by simp [hSz1])).symm⟩
        · cases hv
      · cases hv
    · cases hv
  · cases hv
theorem hNa_sz {h : mH} {t : Nat} {n : Int32} {z : mH × Nat} (hv : hNa h t n = some z) : h.length ≤ z.1.length ∧ hSz h ≤ hSz z.1 := by
  unfold hNa at hv
  split at hv
  · cases hv; exact ⟨by simp, by rw [hSz_push]; omega⟩
  · cases hv
theorem hNw_sz {h : mH} {ci : Nat} {z : mH × Nat} (hv : hNw h ci = some z) : h.length ≤ z.1.length ∧ hSz h ≤ hSz z.1 := by
  unfold hNw at hv
  split at hv
  · split at hv
    · cases hv; exact ⟨by simp, by rw [hSz_push]; omega⟩
    · cases hv
  · cases hv
theorem hCp_sz {h h1 : mH} {a0 a : Nat} {sp dp n : Int32} (hv : hCp h a0 sp a dp n = some h1) : h.length ≤ h1.length ∧ hSz h ≤ hSz h1 := by
  unfold hCp at hv
  split at hv
  · next t0 n0 f t1 n1 g e0 e =>
    split at hv
    · cases hv; exact ⟨by simp, Nat.le_of_eq (hSz_set h a _ _ e (by simp [hSz1])).symm⟩
    · cases hv
  · cases hv
section SZ
variable {L len pc i : Nat} {l : mL} {st : List Value} {h : mH} {X : mX} {y : Nat} {off : Int}
def qSz (h : mH) (q : mR mH) : Prop := match q with
  | .inl z => h.length ≤ z.2.2.2.length ∧ hSz h ≤ hSz z.2.2.2
  | .inr (.inl z) => z.2 = h
  | .inr (.inr z) => z.2.2.2.2.2 = h
theorem qSz_rf {pc1 : Nat} {l1 : mL} {st1 : List Value} : qSz h (.inl (pc1, l1, st1, h)) := ⟨Nat.le_refl _, Nat.le_refl _⟩
theorem mCv_sz {sp : Bool} {idx : Nat} {q : mR mH} (hs : mCv oH sp y len pc l st h idx = some q) : qSz h q := by
  rcases q with z | z | z
  · obtain ⟨-, -, -, a, r, -, -, -, rfl⟩ := mCv_inl hs
    exact qSz_rf
  all_goals
    unfold mCv at hs
    split at hs
    · split at hs
      · split at hs
        · cases hs <;> first | rfl | exact qSz_rf
        · cases hs
      · cases hs
    · split at hs
      · split at hs
        · split at hs
          · have := (mGo_inv hs).2; cases this
          · cases hs
        · cases hs
      · cases hs
theorem mCi_sz {idx : Nat} {q : mR mH} (hs : mCi oH y len pc l st h idx = some q) : qSz h q := by
  rcases q with z | z | z
  · rcases mCi_inl hs with ⟨k, v, w, r, -, -, -, -, -, rfl⟩ | ⟨n, dp, a, sp, a0, r, h1, -, -, -, -, hv, -, rfl⟩
    · exact qSz_rf
    · exact hCp_sz hv
  all_goals
    unfold mCi at hs
    split at hs
    · split at hs
      · cases hs <;> first | rfl | exact qSz_rf
      · cases hs
    · split at hs
      · split at hs
        · split at hs
          · split at hs
            · have := (mGo_inv hs).2; cases this
            · cases hs
          · cases hs
        · cases hs
      · split at hs
        · split at hs
          · split at hs
            · split at hs
              · have := (mGo_inv hs).2; cases this
              · cases hs
            · cases hs
          · cases hs
        · cases hs
set_option maxHeartbeats 4000000 in
theorem mIns_sz {ins : Instr} {q : mR mH} (hs : mIns oH X y pc len l st h ins = some q) : qSz h q := by
  cases ins with
  | iconst n =>
    change mGo 1 len pc l (.int (Int32.ofInt n) :: st) h = _ at hs
    obtain ⟨-, hq⟩ := mGo_inv hs
    subst hq
    exact qSz_rf
  | bipush n =>
    change mGo 2 len pc l (.int (Int8.ofInt n).toInt32 :: st) h = _ at hs
    obtain ⟨-, hq⟩ := mGo_inv hs
    subst hq
    exact qSz_rf
  | sipush n =>
    change mGo 3 len pc l (.int (Int16.ofInt n).toInt32 :: st) h = _ at hs
    obtain ⟨-, hq⟩ := mGo_inv hs
    subst hq
    exact qSz_rf
  | lconst n =>
    change mGo 1 len pc l (.long (Int64.ofNat (n : Nat)) :: st) h = _ at hs
    obtain ⟨-, hq⟩ := mGo_inv hs
    subst hq
    exact qSz_rf
  | aconst_null =>
    change mGo 1 len pc l (.null :: st) h = _ at hs
    obtain ⟨-, hq⟩ := mGo_inv hs
    subst hq
    exact qSz_rf
  | ldc idx =>
    change mCs 2 len y pc l st h idx false = _ at hs
    rcases mCs_inv hs with ⟨-, v, -, -, hq⟩ | ⟨-, v, -, -, hq⟩ <;> (subst hq; exact qSz_rf)
  | ldc_w idx =>
    change mCs 3 len y pc l st h idx false = _ at hs
    rcases mCs_inv hs with ⟨-, v, -, -, hq⟩ | ⟨-, v, -, -, hq⟩ <;> (subst hq; exact qSz_rf)
  | ldc2_w idx =>
    change mCs 3 len y pc l st h idx true = _ at hs
    rcases mCs_inv hs with ⟨-, v, -, -, hq⟩ | ⟨-, v, -, -, hq⟩ <;> (subst hq; exact qSz_rf)
  | iload_n k =>
    change mLd 1 len pc l k st h isI = _ at hs
    obtain ⟨v, -, -, -, hq⟩ := mLd_inv hs
    subst hq
    exact qSz_rf
  | iload k =>
    change mLd 2 len pc l k st h isI = _ at hs
    obtain ⟨v, -, -, -, hq⟩ := mLd_inv hs
    subst hq
    exact qSz_rf
  | lload_n k =>
    change mLd 1 len pc l k st h isL = _ at hs
    obtain ⟨v, -, -, -, hq⟩ := mLd_inv hs
    subst hq
    exact qSz_rf
  | lload k =>
    change mLd 2 len pc l k st h isL = _ at hs
    obtain ⟨v, -, -, -, hq⟩ := mLd_inv hs
    subst hq
    exact qSz_rf
  | aload_n k =>
    change mLd 1 len pc l k st h isA = _ at hs
    obtain ⟨v, -, -, -, hq⟩ := mLd_inv hs
    subst hq
    exact qSz_rf
  | aload k =>
    change mLd 2 len pc l k st h isA = _ at hs
    obtain ⟨v, -, -, -, hq⟩ := mLd_inv hs
    subst hq
    exact qSz_rf
  | istore_n k =>
    change mStI 1 len pc l k st h = _ at hs
    obtain ⟨x, r, -, -, -, hq⟩ := mStI_inv hs
    subst hq
    exact qSz_rf
  | istore k =>
    change mStI 2 len pc l k st h = _ at hs
    obtain ⟨x, r, -, -, -, hq⟩ := mStI_inv hs
    subst hq
    exact qSz_rf
  | lstore_n k =>
    change mStL 1 len pc l k st h = _ at hs
    obtain ⟨x, r, -, -, -, hq⟩ := mStL_inv hs
    subst hq
    exact qSz_rf
  | lstore k =>
    change mStL 2 len pc l k st h = _ at hs
    obtain ⟨x, r, -, -, -, hq⟩ := mStL_inv hs
    subst hq
    exact qSz_rf
  | astore_n k =>
    change mStA 1 len pc l k st h = _ at hs
    obtain ⟨x, r, -, -, -, -, hq⟩ := mStA_inv hs
    subst hq
    exact qSz_rf
  | astore k =>
    change mStA 2 len pc l k st h = _ at hs
    obtain ⟨x, r, -, -, -, -, hq⟩ := mStA_inv hs
    subst hq
    exact qSz_rf
  | iinc k n =>
    change (match l[k]? with | some (some (.int x)) => mGo 3 len pc (mSt1 l k (.int (x + Int32.ofInt n))) st h | _ => none) = _ at hs
    split at hs
    · obtain ⟨-, hq⟩ := mGo_inv hs
      subst hq
      exact qSz_rf
    · cases hs
  | iadd =>
    change mII len pc l st h (fun x y => x + y) = _ at hs
    obtain ⟨x, z, r, -, -, hq⟩ := mII_inv hs
    subst hq
    exact qSz_rf
  | isub =>
    change mII len pc l st h (fun x y => x - y) = _ at hs
    obtain ⟨x, z, r, -, -, hq⟩ := mII_inv hs
    subst hq
    exact qSz_rf
  | imul =>
    change mII len pc l st h (fun x y => x * y) = _ at hs
    obtain ⟨x, z, r, -, -, hq⟩ := mII_inv hs
    subst hq
    exact qSz_rf
  | iand =>
    change mII len pc l st h (fun x y => x &&& y) = _ at hs
    obtain ⟨x, z, r, -, -, hq⟩ := mII_inv hs
    subst hq
    exact qSz_rf
  | ior =>
    change mII len pc l st h (fun x y => x ||| y) = _ at hs
    obtain ⟨x, z, r, -, -, hq⟩ := mII_inv hs
    subst hq
    exact qSz_rf
  | ixor =>
    change mII len pc l st h (fun x y => x ^^^ y) = _ at hs
    obtain ⟨x, z, r, -, -, hq⟩ := mII_inv hs
    subst hq
    exact qSz_rf
  | ishl =>
    change mII len pc l st h (fun x y => x <<< (y &&& 31)) = _ at hs
    obtain ⟨x, z, r, -, -, hq⟩ := mII_inv hs
    subst hq
    exact qSz_rf
  | ishr =>
    change mII len pc l st h (fun x y => x >>> (y &&& 31)) = _ at hs
    obtain ⟨x, z, r, -, -, hq⟩ := mII_inv hs
    subst hq
    exact qSz_rf
  | iushr =>
    change mII len pc l st h (fun x y => (x.toUInt32 >>> (y.toUInt32 &&& Int32.toUInt32 31)).toInt32) = _ at hs
    obtain ⟨x, z, r, -, -, hq⟩ := mII_inv hs
    subst hq
    exact qSz_rf
  | idiv =>
    change mIZ len pc l st h (fun x y => x / y) = _ at hs
    obtain ⟨x, z, r, -, -, -, hq⟩ := mIZ_inv hs
    subst hq
    exact qSz_rf
  | irem =>
    change mIZ len pc l st h (fun x y => x - x / y * y) = _ at hs
    obtain ⟨x, z, r, -, -, -, hq⟩ := mIZ_inv hs
    subst hq
    exact qSz_rf
  | ineg =>
    change mI1 len pc l st h (fun x => .int (-x)) = _ at hs
    obtain ⟨x, r, -, -, hq⟩ := mI1_inv hs
    subst hq
    exact qSz_rf
  | ladd =>
    change mLL len pc l st h (fun x y => .long (x + y)) = _ at hs
    obtain ⟨x, z, r, -, -, hq⟩ := mLL_inv hs
    subst hq
    exact qSz_rf
  | lsub =>
    change mLL len pc l st h (fun x y => .long (x - y)) = _ at hs
    obtain ⟨x, z, r, -, -, hq⟩ := mLL_inv hs
    subst hq
    exact qSz_rf
  | lmul =>
    change mLL len pc l st h (fun x y => .long (x * y)) = _ at hs
    obtain ⟨x, z, r, -, -, hq⟩ := mLL_inv hs
    subst hq
    exact qSz_rf
  | land =>
    change mLL len pc l st h (fun x y => .long (x &&& y)) = _ at hs
    obtain ⟨x, z, r, -, -, hq⟩ := mLL_inv hs
    subst hq
    exact qSz_rf
  | lor =>
    change mLL len pc l st h (fun x y => .long (x ||| y)) = _ at hs
    obtain ⟨x, z, r, -, -, hq⟩ := mLL_inv hs
    subst hq
    exact qSz_rf
  | lcmp =>
    change mLL len pc l st h (fun x y => .int (lg_cmp x y)) = _ at hs
    obtain ⟨x, z, r, -, -, hq⟩ := mLL_inv hs
    subst hq
    exact qSz_rf
  | ldiv =>
    change mLZ len pc l st h (fun x y => .long (x / y)) = _ at hs
    obtain ⟨x, z, r, -, -, -, hq⟩ := mLZ_inv hs
    subst hq
    exact qSz_rf
  | lrem =>
    change mLZ len pc l st h (fun x y => .long (x - x / y * y)) = _ at hs
    obtain ⟨x, z, r, -, -, -, hq⟩ := mLZ_inv hs
    subst hq
    exact qSz_rf
  | lshl =>
    change mLI len pc l st h (fun x y => x <<< (y.toInt64 &&& 63)) = _ at hs
    obtain ⟨x, z, r, -, -, hq⟩ := mLI_inv hs
    subst hq
    exact qSz_rf
  | lshr =>
    change mLI len pc l st h (fun x y => x >>> (y.toInt64 &&& 63)) = _ at hs
    obtain ⟨x, z, r, -, -, hq⟩ := mLI_inv hs
    subst hq
    exact qSz_rf
  | lushr =>
    change mLI len pc l st h (fun x y => (x.toUInt64 >>> (y.toInt64.toUInt64 &&& Int64.toUInt64 63)).toInt64) = _ at hs
    obtain ⟨x, z, r, -, -, hq⟩ := mLI_inv hs
    subst hq
    exact qSz_rf
  | i2l =>
    change mI1 len pc l st h (fun x => .long x.toInt64) = _ at hs
    obtain ⟨x, r, -, -, hq⟩ := mI1_inv hs
    subst hq
    exact qSz_rf
  | i2b =>
    change mI1 len pc l st h (fun x => .int x.toInt8.toInt32) = _ at hs
    obtain ⟨x, r, -, -, hq⟩ := mI1_inv hs
    subst hq
    exact qSz_rf
  | i2c =>
    change mI1 len pc l st h (fun x => .int (x.toUInt32 % 65536).toInt32) = _ at hs
    obtain ⟨x, r, -, -, hq⟩ := mI1_inv hs
    subst hq
    exact qSz_rf
  | l2i =>
    change mL1 len pc l st h (fun x => .int x.toInt32) = _ at hs
    obtain ⟨x, r, -, -, hq⟩ := mL1_inv hs
    subst hq
    exact qSz_rf
  | dup =>
    change (match st with | v :: r => if v.category = 1 then mGo 1 len pc l (v :: v :: r) h else none | _ => none) = _ at hs
    split at hs
    · split at hs
      · obtain ⟨-, hq⟩ := mGo_inv hs
        subst hq
        exact qSz_rf
      · cases hs
    · cases hs
  | dup2 =>
    change (match st with | v :: w :: r => if v.category = 1 ∧ w.category = 1 then mGo 1 len pc l (v :: w :: v :: w :: r) h else none | _ => none) = _ at hs
    split at hs
    · split at hs
      · obtain ⟨-, hq⟩ := mGo_inv hs
        subst hq
        exact qSz_rf
      · cases hs
    · cases hs
  | pop =>
    change (match st with | v :: r => if v.category = 1 then mGo 1 len pc l (r) h else none | _ => none) = _ at hs
    split at hs
    · split at hs
      · obtain ⟨-, hq⟩ := mGo_inv hs
        subst hq
        exact qSz_rf
      · cases hs
    · cases hs
  | ifCond cc off =>
    change mIf cc len pc l st h off = _ at hs
    obtain ⟨x, r, -, t, -, -, hq⟩ := mIf_inv hs
    subst hq
    exact qSz_rf
  | if_icmp cc off =>
    change mIc cc len pc l st h off = _ at hs
    obtain ⟨x, z, r, -, t, -, -, hq⟩ := mIc_inv hs
    subst hq
    exact qSz_rf
  | ifnull off =>
    change mNl true len pc l st h off = _ at hs
    rcases mNl_inv hs with ⟨r, -, t, -, -, hq⟩ | ⟨a, r, -, t, -, -, hq⟩ <;> (subst hq; exact qSz_rf)
  | ifnonnull off =>
    change mNl false len pc l st h off = _ at hs
    rcases mNl_inv hs with ⟨r, -, t, -, -, hq⟩ | ⟨a, r, -, t, -, -, hq⟩ <;> (subst hq; exact qSz_rf)
  | goto off =>
    change mJp len pc l st h true off = _ at hs
    obtain ⟨t, -, -, hq⟩ := mJp_inv hs
    subst hq
    exact qSz_rf
  | tableswitch d lo hi os =>
    change mSw pc l st h d lo hi os = _ at hs
    obtain ⟨x, r, o, -, -, t, -, hq⟩ := mSw_inv hs
    subst hq
    exact qSz_rf
  | iaload =>
    change mAl oH X 0 len pc l st h = _ at hs
    obtain ⟨j, a, r, -, -, ⟨-, -, -, hq⟩ | ⟨v, -, hq⟩⟩ := mAl_inv hs <;> (subst hq; exact qSz_rf)
  | baload =>
    change mAl oH X 1 len pc l st h = _ at hs
    obtain ⟨j, a, r, -, -, ⟨-, -, -, hq⟩ | ⟨v, -, hq⟩⟩ := mAl_inv hs <;> (subst hq; exact qSz_rf)
  | caload =>
    change mAl oH X 2 len pc l st h = _ at hs
    obtain ⟨j, a, r, -, -, ⟨-, -, -, hq⟩ | ⟨v, -, hq⟩⟩ := mAl_inv hs <;> (subst hq; exact qSz_rf)
  | aaload =>
    change mAl oH X 3 len pc l st h = _ at hs
    obtain ⟨j, a, r, -, -, ⟨-, -, -, hq⟩ | ⟨v, -, hq⟩⟩ := mAl_inv hs <;> (subst hq; exact qSz_rf)
  | iastore =>
    change mAs oH 0 len pc l st h = _ at hs
    obtain ⟨v, j, a, r, h2, -, -, hv, hq⟩ := mAs_inv hs
    subst hq
    exact hSt_sz hv
  | bastore =>
    change mAs oH 1 len pc l st h = _ at hs
    obtain ⟨v, j, a, r, h2, -, -, hv, hq⟩ := mAs_inv hs
    subst hq
    exact hSt_sz hv
  | castore =>
    change mAs oH 2 len pc l st h = _ at hs
    obtain ⟨v, j, a, r, h2, -, -, hv, hq⟩ := mAs_inv hs
    subst hq
    exact hSt_sz hv
  | aastore =>
    change mAs oH 3 len pc l st h = _ at hs
    obtain ⟨v, j, a, r, h2, -, -, hv, hq⟩ := mAs_inv hs
    subst hq
    exact hSt_sz hv
  | arraylength =>
    change mAn oH X len pc l st h = _ at hs
    obtain ⟨a, r, -, -, ⟨-, hq⟩ | ⟨v, -, hq⟩⟩ := mAn_inv hs <;> (subst hq; exact qSz_rf)
  | newarray at1 =>
    cases at1 with
    | int =>
      change mNa oH 2 0 len pc l st h = _ at hs
      obtain ⟨n, r, z, -, hv, -, hq⟩ := mNa_inv hs
      subst hq
      exact hNa_sz hv
    | boolean =>
      change mNa oH 2 1 len pc l st h = _ at hs
      obtain ⟨n, r, z, -, hv, -, hq⟩ := mNa_inv hs
      subst hq
      exact hNa_sz hv
    | char =>
      change mNa oH 2 2 len pc l st h = _ at hs
      obtain ⟨n, r, z, -, hv, -, hq⟩ := mNa_inv hs
      subst hq
      exact hNa_sz hv
    | byte =>
      change mNa oH 2 3 len pc l st h = _ at hs
      obtain ⟨n, r, z, -, hv, -, hq⟩ := mNa_inv hs
      subst hq
      exact hNa_sz hv
    | _ => cases hs
  | anewarray idx =>
    change (if mAt (mOwn y) idx then mNa oH 3 4 len pc l st h else none) = _ at hs
    split at hs
    · obtain ⟨n, r, z, -, hv, -, hq⟩ := mNa_inv hs
      subst hq
      exact hNa_sz hv
    · cases hs
  | getfield idx =>
    change mGf oH y len pc l st h idx = _ at hs
    obtain ⟨a, r, z, v, -, -, -, -, hq⟩ := mGf_inv hs
    subst hq
    exact qSz_rf
  | putfield idx =>
    change mPf oH y len pc l st h idx = _ at hs
    obtain ⟨v, a, r, z, h2, -, -, -, hv, -, hq⟩ := mPf_inv hs
    subst hq
    exact hPf_sz hv
  | new idx =>
    change mNw oH y len pc l st h idx = _ at hs
    obtain ⟨ci, z, -, hv, -, hq⟩ := mNw_inv hs
    subst hq
    exact hNw_sz hv
  | invokevirtual idx =>
    change mCv oH false y len pc l st h idx = _ at hs
    exact mCv_sz hs
  | invokespecial idx =>
    change mCv oH true y len pc l st h idx = _ at hs
    exact mCv_sz hs
  | invokestatic idx =>
    change mCi oH y len pc l st h idx = _ at hs
    exact mCi_sz hs
  | ireturn =>
    simp only [mIns] at hs
    split at hs
    · split at hs
      · cases hs; rfl
      · cases hs
    · cases hs
  | lreturn =>
    simp only [mIns] at hs
    split at hs
    · split at hs
      · cases hs; rfl
      · cases hs
    · cases hs
  | return_ =>
    simp only [mIns] at hs
    split at hs
    · split at hs
      · cases hs; rfl
      · cases hs
    · cases hs
  | areturn =>
    simp only [mIns] at hs
    split at hs
    · split at hs
      · cases hs; rfl
      · cases hs
    · split at hs
      · cases hs; rfl
      · cases hs
    · cases hs
  | _ => first | (cases hs; done) | (simp [mIns] at hs; done)
theorem mStep_inv {q : mR mH} (hs : mStep oH X y pc l st h = some q) : ∃ ins len, decode (mCd y) pc = .ok (ins, len) ∧ mIns oH X y pc len l st h ins = some q := by
  unfold mStep at hs
  split at hs
  · next ins len e => exact ⟨ins, len, e, hs⟩
  · cases hs
theorem mRun_sz : ∀ (n : Nat) {y pc : Nat} {l : mL} {st : List Value} {h : mH} {r : Option Value × mH}, mRun oH X n y pc l st h = some r → h.length ≤ r.2.length ∧ hSz h ≤ hSz r.2 := by
  intro n
  induction n with
  | zero => intro y pc l st h r hr; simp [mRun] at hr
  | succ n ih =>
    intro y pc l st h r hr
    rw [mRun] at hr
    cases hs : mStep oH X y pc (mM y pc l) st h with
    | none => rw [hs] at hr; cases hr
    | some q =>
      rw [hs] at hr
      obtain ⟨ins, len, -, h2⟩ := mStep_inv hs
      have h3 := mIns_sz h2
      rcases q with ⟨pc1, l1, st1, h1⟩ | z | ⟨y1, as, pc1, l1, st1, h1⟩
      · have h4 := ih hr
        exact ⟨Nat.le_trans h3.1 h4.1, Nat.le_trans h3.2 h4.2⟩
      · have h3' : z.2 = h := h3
        cases hr
        rw [h3']
        exact ⟨Nat.le_refl _, Nat.le_refl _⟩
      · have h3' : h1 = h := h3
        subst h3'
        dsimp only at hr
        cases hc : mRun oH X n y1 0 (mEnt as (mMx y1)) [] h1 with
        | none => rw [hc] at hr; cases hr
        | some v =>
          rw [hc] at hr
          have h5 := ih hc
          have h6 := ih hr
          exact ⟨Nat.le_trans h5.1 h6.1, Nat.le_trans h5.2 h6.2⟩
/-- how a method ends -/
def retOK (y : Nat) (v : Option Value) (pc : Nat) : Prop := (∃ x, v = some (.int x) ∧ mRo (mRt y) x = true ∧ decode (mCd y) pc = .ok (.ireturn, 1)) ∨ (∃ x, v = some (.long x) ∧ mRt y = some .long ∧ decode (mCd y) pc = .ok (.lreturn, 1)) ∨ (∃ x, v = some x ∧ (x = .null ∨ ∃ a, x = .ref a) ∧ mRa (mRt y) = true ∧ decode (mCd y) pc = .ok (.areturn, 1)) ∨ (v = none ∧ mRt y = none ∧ decode (mCd y) pc = .ok (.return_, 1))
theorem mCv_nr {sp : Bool} {idx : Nat} {z : Option Value × mH} (hs : mCv oH sp y len pc l st h idx = some (.inr (.inl z))) : False := by
  unfold mCv at hs
  split at hs
  · split at hs
    · split at hs <;> cases hs
    · cases hs
  · split at hs
    · split at hs
      · split at hs
        · have := (mGo_inv hs).2; cases this
        · cases hs
      · cases hs
    · cases hs
theorem mCi_nr {idx : Nat} {z : Option Value × mH} (hs : mCi oH y len pc l st h idx = some (.inr (.inl z))) : False := by
  unfold mCi at hs
  split at hs
  · split at hs <;> cases hs
  · split at hs
    · split at hs
      · split at hs
        · split at hs
          · have := (mGo_inv hs).2; cases this
          · cases hs
        · cases hs
      · cases hs
    · split at hs
      · split at hs
        · split at hs
          · split at hs
            · have := (mGo_inv hs).2; cases this
            · cases hs
          · cases hs
        · cases hs
      · cases hs
theorem mCv_call {sp : Bool} {idx y1 pc1 : Nat} {as : List Value} {l1 : mL} {st1 : List Value} {h1 : mH} (hs : mCv oH sp y len pc l st h idx = some (.inr (.inr (y1, as, pc1, l1, st1, h1)))) : lk (mMt (mOwn y)) idx = some y1 ∧ len = 3 ∧ mNp y1 ≤ st.length ∧ mSm st1 = true ∧ mIni y1 = sp ∧ mSta y1 = false ∧ (∃ a, st.drop (mNp y1) = .ref a :: st1 ∧ as = .ref a :: (st.take (mNp y1)).reverse ∧ (sp = false → hCl h a = some (mOwn y1))) ∧ (mEn as).length ≤ mMx y1 ∧ mRm y y1 = true ∧ pc1 = pc + 3 ∧ l1 = l ∧ h1 = h := by
  unfold mCv at hs
  split at hs
  · next y2 e =>
    split at hs
    · next a rest e2 =>
      split at hs
      · next hc =>
        obtain ⟨g1, g2, g3, g4, g5, g6, g7⟩ := hc
        cases hs
        simp only [Bool.and_eq_true, Bool.not_eq_true'] at g4
        refine ⟨e, g1, g2, g3, eq_of_beq g4.1, g4.2, ⟨a, e2, rfl, fun z => ?_⟩, g6, g7, rfl, rfl, rfl⟩
        rw [z, Bool.false_or] at g5
        exact eq_of_beq g5
      · cases hs
    · cases hs
  · split at hs
    · split at hs
      · split at hs
        · have := (mGo_inv hs).2; cases this
        · cases hs
      · cases hs
    · cases hs
theorem mCi_call {idx y1 pc1 : Nat} {as : List Value} {l1 : mL} {st1 : List Value} {h1 : mH} (hs : mCi oH y len pc l st h idx = some (.inr (.inr (y1, as, pc1, l1, st1, h1)))) : lk (mMt (mOwn y)) idx = some y1 ∧ len = 3 ∧ mNp y1 ≤ st.length ∧ mSm st1 = true ∧ mSta y1 = true ∧ st1 = st.drop (mNp y1) ∧ as = (st.take (mNp y1)).reverse ∧ (mEn as).length ≤ mMx y1 ∧ mRm y y1 = true ∧ pc1 = pc + 3 ∧ l1 = l ∧ h1 = h := by
  unfold mCi at hs
  split at hs
  · next y2 e =>
    split at hs
    · next hc =>
      obtain ⟨g1, g2, g3, g4, g5, g6⟩ := hc
      cases hs
      exact ⟨e, g1, g2, g3, g4, rfl, rfl, g5, g6, rfl, rfl, rfl⟩
    · cases hs
  · split at hs
    · split at hs
      · split at hs
        · split at hs
          · have := (mGo_inv hs).2; cases this
          · cases hs
        · cases hs
      · cases hs
    · split at hs
      · split at hs
        · split at hs
          · split at hs
            · have := (mGo_inv hs).2; cases this
            · cases hs
          · cases hs
        · cases hs
      · cases hs
end SZ
set_option maxHeartbeats 4000000 in
theorem mIns_ret {len pc : Nat} {l : mL} {st : List Value} {h : mH} {X : mX} {y : Nat} {ins : Instr} {z : Option Value × mH} (hd : decode (mCd y) pc = .ok (ins, len)) (hs : mIns oH X y pc len l st h ins = some (.inr (.inl z))) : retOK y z.1 pc ∧ st = z.1.toList ∧ z.2 = h := by
  cases ins with
  | invokevirtual idx => exact (mCv_nr (show mCv oH false y len pc l st h idx = _ from hs)).elim
  | invokespecial idx => exact (mCv_nr (show mCv oH true y len pc l st h idx = _ from hs)).elim
  | invokestatic idx => exact (mCi_nr (show mCi oH y len pc l st h idx = _ from hs)).elim
  | ireturn =>
    simp only [mIns] at hs
    split at hs
    · next x =>
      split at hs
      · next e => cases hs; obtain ⟨rfl, e2⟩ := e; exact ⟨Or.inl ⟨x, rfl, e2, hd⟩, rfl, rfl⟩
      · cases hs
    · cases hs
  | lreturn =>
    simp only [mIns] at hs
    split at hs
    · next x =>
      split at hs
      · next e => cases hs; obtain ⟨rfl, e2⟩ := e; exact ⟨Or.inr (Or.inl ⟨x, rfl, e2, hd⟩), rfl, rfl⟩
      · cases hs
    · cases hs
  | areturn =>
    simp only [mIns] at hs
    split at hs
    · next x =>
      split at hs
      · next e => cases hs; obtain ⟨rfl, e2⟩ := e; exact ⟨Or.inr (Or.inr (Or.inl ⟨_, rfl, Or.inr ⟨x, rfl⟩, e2, hd⟩)), rfl, rfl⟩
      · cases hs
    · split at hs
      · next e => cases hs; obtain ⟨rfl, e2⟩ := e; exact ⟨Or.inr (Or.inr (Or.inl ⟨_, rfl, Or.inl rfl, e2, hd⟩)), rfl, rfl⟩
      · cases hs
    · cases hs
  | return_ =>
    simp only [mIns] at hs
    split at hs
    · split at hs
      · next e => cases hs; obtain ⟨rfl, e2⟩ := e; exact ⟨Or.inr (Or.inr (Or.inr ⟨rfl, e2, hd⟩)), rfl, rfl⟩
      · cases hs
    · cases hs
  | iconst n =>
    change mGo 1 len pc l (.int (Int32.ofInt n) :: st) h = _ at hs
    obtain ⟨-, hq⟩ := mGo_inv hs
    cases hq
  | bipush n =>
    change mGo 2 len pc l (.int (Int8.ofInt n).toInt32 :: st) h = _ at hs
    obtain ⟨-, hq⟩ := mGo_inv hs
    cases hq
  | sipush n =>
    change mGo 3 len pc l (.int (Int16.ofInt n).toInt32 :: st) h = _ at hs
    obtain ⟨-, hq⟩ := mGo_inv hs
    cases hq
  | lconst n =>
    change mGo 1 len pc l (.long (Int64.ofNat (n : Nat)) :: st) h = _ at hs
    obtain ⟨-, hq⟩ := mGo_inv hs
    cases hq
  | aconst_null =>
    change mGo 1 len pc l (.null :: st) h = _ at hs
    obtain ⟨-, hq⟩ := mGo_inv hs
    cases hq
  | ldc idx =>
    change mCs 2 len y pc l st h idx false = _ at hs
    rcases mCs_inv hs with ⟨-, v, -, -, hq⟩ | ⟨-, v, -, -, hq⟩ <;> (cases hq)
  | ldc_w idx =>
    change mCs 3 len y pc l st h idx false = _ at hs
    rcases mCs_inv hs with ⟨-, v, -, -, hq⟩ | ⟨-, v, -, -, hq⟩ <;> (cases hq)
  | ldc2_w idx =>
    change mCs 3 len y pc l st h idx true = _ at hs
    rcases mCs_inv hs with ⟨-, v, -, -, hq⟩ | ⟨-, v, -, -, hq⟩ <;> (cases hq)
  | iload_n k =>
    change mLd 1 len pc l k st h isI = _ at hs
    obtain ⟨v, -, -, -, hq⟩ := mLd_inv hs
    cases hq
  | iload k =>
    change mLd 2 len pc l k st h isI = _ at hs
    obtain ⟨v, -, -, -, hq⟩ := mLd_inv hs
    cases hq
  | lload_n k =>
    change mLd 1 len pc l k st h isL = _ at hs
    obtain ⟨v, -, -, -, hq⟩ := mLd_inv hs
    cases hq
  | lload k =>
    change mLd 2 len pc l k st h isL = _ at hs
    obtain ⟨v, -, -, -, hq⟩ := mLd_inv hs
    cases hq
  | aload_n k =>
    change mLd 1 len pc l k st h isA = _ at hs
    obtain ⟨v, -, -, -, hq⟩ := mLd_inv hs
    cases hq
  | aload k =>
    change mLd 2 len pc l k st h isA = _ at hs
    obtain ⟨v, -, -, -, hq⟩ := mLd_inv hs
    cases hq
  | istore_n k =>
    change mStI 1 len pc l k st h = _ at hs
    obtain ⟨x, r, -, -, -, hq⟩ := mStI_inv hs
    cases hq
  | istore k =>
    change mStI 2 len pc l k st h = _ at hs
    obtain ⟨x, r, -, -, -, hq⟩ := mStI_inv hs
    cases hq
  | lstore_n k =>
    change mStL 1 len pc l k st h = _ at hs
    obtain ⟨x, r, -, -, -, hq⟩ := mStL_inv hs
    cases hq
  | lstore k =>
    change mStL 2 len pc l k st h = _ at hs
    obtain ⟨x, r, -, -, -, hq⟩ := mStL_inv hs
    cases hq
  | astore_n k =>
    change mStA 1 len pc l k st h = _ at hs
    obtain ⟨x, r, -, -, -, -, hq⟩ := mStA_inv hs
    cases hq
  | astore k =>
    change mStA 2 len pc l k st h = _ at hs
    obtain ⟨x, r, -, -, -, -, hq⟩ := mStA_inv hs
    cases hq
  | iinc k n =>
    change (match l[k]? with | some (some (.int x)) => mGo 3 len pc (mSt1 l k (.int (x + Int32.ofInt n))) st h | _ => none) = _ at hs
    split at hs
    · obtain ⟨-, hq⟩ := mGo_inv hs
      cases hq
    · cases hs
  | iadd =>
    change mII len pc l st h (fun x y => x + y) = _ at hs
    obtain ⟨x, z, r, -, -, hq⟩ := mII_inv hs
    cases hq
  | isub =>
    change mII len pc l st h (fun x y => x - y) = _ at hs
    obtain ⟨x, z, r, -, -, hq⟩ := mII_inv hs
    cases hq
  | imul =>
    change mII len pc l st h (fun x y => x * y) = _ at hs
    obtain ⟨x, z, r, -, -, hq⟩ := mII_inv hs
    cases hq
  | iand =>
    change mII len pc l st h (fun x y => x &&& y) = _ at hs
    obtain ⟨x, z, r, -, -, hq⟩ := mII_inv hs
    cases hq
  | ior =>
    change mII len pc l st h (fun x y => x ||| y) = _ at hs
    obtain ⟨x, z, r, -, -, hq⟩ := mII_inv hs
    cases hq
  | ixor =>
    change mII len pc l st h (fun x y => x ^^^ y) = _ at hs
    obtain ⟨x, z, r, -, -, hq⟩ := mII_inv hs
    cases hq
  | ishl =>
    change mII len pc l st h (fun x y => x <<< (y &&& 31)) = _ at hs
    obtain ⟨x, z, r, -, -, hq⟩ := mII_inv hs
    cases hq
  | ishr =>
    change mII len pc l st h (fun x y => x >>> (y &&& 31)) = _ at hs
    obtain ⟨x, z, r, -, -, hq⟩ := mII_inv hs
    cases hq
  | iushr =>
    change mII len pc l st h (fun x y => (x.toUInt32 >>> (y.toUInt32 &&& Int32.toUInt32 31)).toInt32) = _ at hs
    obtain ⟨x, z, r, -, -, hq⟩ := mII_inv hs
    cases hq
  | idiv =>
    change mIZ len pc l st h (fun x y => x / y) = _ at hs
    obtain ⟨x, z, r, -, -, -, hq⟩ := mIZ_inv hs
    cases hq
  | irem =>
    change mIZ len pc l st h (fun x y => x - x / y * y) = _ at hs
    obtain ⟨x, z, r, -, -, -, hq⟩ := mIZ_inv hs
    cases hq
  | ineg =>
    change mI1 len pc l st h (fun x => .int (-x)) = _ at hs
    obtain ⟨x, r, -, -, hq⟩ := mI1_inv hs
    cases hq
  | ladd =>
    change mLL len pc l st h (fun x y => .long (x + y)) = _ at hs
    obtain ⟨x, z, r, -, -, hq⟩ := mLL_inv hs
    cases hq
  | lsub =>
    change mLL len pc l st h (fun x y => .long (x - y)) = _ at hs
    obtain ⟨x, z, r, -, -, hq⟩ := mLL_inv hs
    cases hq
  | lmul =>
    change mLL len pc l st h (fun x y => .long (x * y)) = _ at hs
    obtain ⟨x, z, r, -, -, hq⟩ := mLL_inv hs
    cases hq
  | land =>
    change mLL len pc l st h (fun x y => .long (x &&& y)) = _ at hs
    obtain ⟨x, z, r, -, -, hq⟩ := mLL_inv hs
    cases hq
  | lor =>
    change mLL len pc l st h (fun x y => .long (x ||| y)) = _ at hs
    obtain ⟨x, z, r, -, -, hq⟩ := mLL_inv hs
    cases hq
  | lcmp =>
    change mLL len pc l st h (fun x y => .int (lg_cmp x y)) = _ at hs
    obtain ⟨x, z, r, -, -, hq⟩ := mLL_inv hs
    cases hq
  | ldiv =>
    change mLZ len pc l st h (fun x y => .long (x / y)) = _ at hs
    obtain ⟨x, z, r, -, -, -, hq⟩ := mLZ_inv hs
    cases hq
  | lrem =>
    change mLZ len pc l st h (fun x y => .long (x - x / y * y)) = _ at hs
    obtain ⟨x, z, r, -, -, -, hq⟩ := mLZ_inv hs
    cases hq
  | lshl =>
    change mLI len pc l st h (fun x y => x <<< (y.toInt64 &&& 63)) = _ at hs
    obtain ⟨x, z, r, -, -, hq⟩ := mLI_inv hs
    cases hq
  | lshr =>
    change mLI len pc l st h (fun x y => x >>> (y.toInt64 &&& 63)) = _ at hs
    obtain ⟨x, z, r, -, -, hq⟩ := mLI_inv hs
    cases hq
  | lushr =>
    change mLI len pc l st h (fun x y => (x.toUInt64 >>> (y.toInt64.toUInt64 &&& Int64.toUInt64 63)).toInt64) = _ at hs
    obtain ⟨x, z, r, -, -, hq⟩ := mLI_inv hs
    cases hq
  | i2l =>
    change mI1 len pc l st h (fun x => .long x.toInt64) = _ at hs
    obtain ⟨x, r, -, -, hq⟩ := mI1_inv hs
    cases hq
  | i2b =>
    change mI1 len pc l st h (fun x => .int x.toInt8.toInt32) = _ at hs
    obtain ⟨x, r, -, -, hq⟩ := mI1_inv hs
    cases hq
  | i2c =>
    change mI1 len pc l st h (fun x => .int (x.toUInt32 % 65536).toInt32) = _ at hs
    obtain ⟨x, r, -, -, hq⟩ := mI1_inv hs
    cases hq
  | l2i =>
    change mL1 len pc l st h (fun x => .int x.toInt32) = _ at hs
    obtain ⟨x, r, -, -, hq⟩ := mL1_inv hs
    cases hq
  | dup =>
    change (match st with | v :: r => if v.category = 1 then mGo 1 len pc l (v :: v :: r) h else none | _ => none) = _ at hs
    split at hs
    · split at hs
      · obtain ⟨-, hq⟩ := mGo_inv hs
        cases hq
      · cases hs
    · cases hs
  | dup2 =>
    change (match st with | v :: w :: r => if v.category = 1 ∧ w.category = 1 then mGo 1 len pc l (v :: w :: v :: w :: r) h else none | _ => none) = _ at hs
    split at hs
    · split at hs
      · obtain ⟨-, hq⟩ := mGo_inv hs
        cases hq
      · cases hs
    · cases hs
  | pop =>
    change (match st with | v :: r => if v.category = 1 then mGo 1 len pc l (r) h else none | _ => none) = _ at hs
    split at hs
    · split at hs
      · obtain ⟨-, hq⟩ := mGo_inv hs
        cases hq
      · cases hs
    · cases hs
  | ifCond cc off =>
    change mIf cc len pc l st h off = _ at hs
    obtain ⟨x, r, -, t, -, -, hq⟩ := mIf_inv hs
    cases hq
  | if_icmp cc off =>
    change mIc cc len pc l st h off = _ at hs
    obtain ⟨x, z, r, -, t, -, -, hq⟩ := mIc_inv hs
    cases hq
  | ifnull off =>
    change mNl true len pc l st h off = _ at hs
    rcases mNl_inv hs with ⟨r, -, t, -, -, hq⟩ | ⟨a, r, -, t, -, -, hq⟩ <;> (cases hq)
  | ifnonnull off =>
    change mNl false len pc l st h off = _ at hs
    rcases mNl_inv hs with ⟨r, -, t, -, -, hq⟩ | ⟨a, r, -, t, -, -, hq⟩ <;> (cases hq)
  | goto off =>
    change mJp len pc l st h true off = _ at hs
    obtain ⟨t, -, -, hq⟩ := mJp_inv hs
    cases hq
  | tableswitch d lo hi os =>
    change mSw pc l st h d lo hi os = _ at hs
    obtain ⟨x, r, o, -, -, t, -, hq⟩ := mSw_inv hs
    cases hq
  | iaload =>
    change mAl oH X 0 len pc l st h = _ at hs
    obtain ⟨j, a, r, -, -, ⟨-, -, -, hq⟩ | ⟨v, -, hq⟩⟩ := mAl_inv hs <;> (cases hq)
  | baload =>
    change mAl oH X 1 len pc l st h = _ at hs
    obtain ⟨j, a, r, -, -, ⟨-, -, -, hq⟩ | ⟨v, -, hq⟩⟩ := mAl_inv hs <;> (cases hq)
  | caload =>
    change mAl oH X 2 len pc l st h = _ at hs
    obtain ⟨j, a, r, -, -, ⟨-, -, -, hq⟩ | ⟨v, -, hq⟩⟩ := mAl_inv hs <;> (cases hq)
  | aaload =>
    change mAl oH X 3 len pc l st h = _ at hs
    obtain ⟨j, a, r, -, -, ⟨-, -, -, hq⟩ | ⟨v, -, hq⟩⟩ := mAl_inv hs <;> (cases hq)
  | iastore =>
    change mAs oH 0 len pc l st h = _ at hs
    obtain ⟨v, j, a, r, h2, -, -, hv, hq⟩ := mAs_inv hs
    cases hq
  | bastore =>
    change mAs oH 1 len pc l st h = _ at hs
    obtain ⟨v, j, a, r, h2, -, -, hv, hq⟩ := mAs_inv hs
    cases hq
  | castore =>
    change mAs oH 2 len pc l st h = _ at hs
    obtain ⟨v, j, a, r, h2, -, -, hv, hq⟩ := mAs_inv hs
    cases hq
  | aastore =>
    change mAs oH 3 len pc l st h = _ at hs
    obtain ⟨v, j, a, r, h2, -, -, hv, hq⟩ := mAs_inv hs
    cases hq
  | arraylength =>
    change mAn oH X len pc l st h = _ at hs
    obtain ⟨a, r, -, -, ⟨-, hq⟩ | ⟨v, -, hq⟩⟩ := mAn_inv hs <;> (cases hq)
  | newarray at1 =>
    cases at1 with
    | int =>
      change mNa oH 2 0 len pc l st h = _ at hs
      obtain ⟨n, r, z, -, hv, -, hq⟩ := mNa_inv hs
      cases hq
    | boolean =>
      change mNa oH 2 1 len pc l st h = _ at hs
      obtain ⟨n, r, z, -, hv, -, hq⟩ := mNa_inv hs
      cases hq
    | char =>
      change mNa oH 2 2 len pc l st h = _ at hs
      obtain ⟨n, r, z, -, hv, -, hq⟩ := mNa_inv hs
      cases hq
    | byte =>
      change mNa oH 2 3 len pc l st h = _ at hs
      obtain ⟨n, r, z, -, hv, -, hq⟩ := mNa_inv hs
      cases hq
    | _ => cases hs
  | anewarray idx =>
    change (if mAt (mOwn y) idx then mNa oH 3 4 len pc l st h else none) = _ at hs
    split at hs
    · obtain ⟨n, r, z, -, hv, -, hq⟩ := mNa_inv hs
      cases hq
    · cases hs
  | getfield idx =>
    change mGf oH y len pc l st h idx = _ at hs
    obtain ⟨a, r, z, v, -, -, -, -, hq⟩ := mGf_inv hs
    cases hq
  | putfield idx =>
    change mPf oH y len pc l st h idx = _ at hs
    obtain ⟨v, a, r, z, h2, -, -, -, hv, -, hq⟩ := mPf_inv hs
    cases hq
  | new idx =>
    change mNw oH y len pc l st h idx = _ at hs
    obtain ⟨ci, z, -, hv, -, hq⟩ := mNw_inv hs
    cases hq
  | _ => first | (cases hs; done) | (simp [mIns] at hs; done)
set_option maxHeartbeats 4000000 in
theorem mIns_call {len pc : Nat} {l : mL} {st : List Value} {h : mH} {X : mX} {y : Nat} {ins : Instr} {z : Nat × List Value × Nat × mL × List Value × mH} (hs : mIns oH X y pc len l st h ins = some (.inr (.inr z))) : (∃ idx, ins = .invokevirtual idx ∧ mCv oH false y len pc l st h idx = some (.inr (.inr z))) ∨ (∃ idx, ins = .invokespecial idx ∧ mCv oH true y len pc l st h idx = some (.inr (.inr z))) ∨ (∃ idx, ins = .invokestatic idx ∧ mCi oH y len pc l st h idx = some (.inr (.inr z))) := by
  cases ins with
  | invokevirtual idx => exact Or.inl ⟨idx, rfl, hs⟩
  | invokespecial idx => exact Or.inr (Or.inl ⟨idx, rfl, hs⟩)
  | invokestatic idx => exact Or.inr (Or.inr ⟨idx, rfl, hs⟩)
  | ireturn =>
    simp only [mIns] at hs
    split at hs
    · split at hs <;> cases hs
    · cases hs
  | lreturn =>
    simp only [mIns] at hs
    split at hs
    · split at hs <;> cases hs
    · cases hs
  | areturn =>
    simp only [mIns] at hs
    split at hs
    · split at hs <;> cases hs
    · split at hs <;> cases hs
    · cases hs
  | return_ =>
    simp only [mIns] at hs
    split at hs
    · split at hs <;> cases hs
    · cases hs
  | iconst n =>
    change mGo 1 len pc l (.int (Int32.ofInt n) :: st) h = _ at hs
    obtain ⟨-, hq⟩ := mGo_inv hs
    cases hq
  | bipush n =>
    change mGo 2 len pc l (.int (Int8.ofInt n).toInt32 :: st) h = _ at hs
    obtain ⟨-, hq⟩ := mGo_inv hs
    cases hq
  | sipush n =>
    change mGo 3 len pc l (.int (Int16.ofInt n).toInt32 :: st) h = _ at hs
    obtain ⟨-, hq⟩ := mGo_inv hs
    cases hq
  | lconst n =>
    change mGo 1 len pc l (.long (Int64.ofNat (n : Nat)) :: st) h = _ at hs
    obtain ⟨-, hq⟩ := mGo_inv hs
    cases hq
  | aconst_null =>
    change mGo 1 len pc l (.null :: st) h = _ at hs
    obtain ⟨-, hq⟩ := mGo_inv hs
    cases hq
  | ldc idx =>
    change mCs 2 len y pc l st h idx false = _ at hs
    rcases mCs_inv hs with ⟨-, v, -, -, hq⟩ | ⟨-, v, -, -, hq⟩ <;> (cases hq)
  | ldc_w idx =>
    change mCs 3 len y pc l st h idx false = _ at hs
    rcases mCs_inv hs with ⟨-, v, -, -, hq⟩ | ⟨-, v, -, -, hq⟩ <;> (cases hq)
  | ldc2_w idx =>
    change mCs 3 len y pc l st h idx true = _ at hs
    rcases mCs_inv hs with ⟨-, v, -, -, hq⟩ | ⟨-, v, -, -, hq⟩ <;> (cases hq)
  | iload_n k =>
    change mLd 1 len pc l k st h isI = _ at hs
    obtain ⟨v, -, -, -, hq⟩ := mLd_inv hs
    cases hq
  | iload k =>
    change mLd 2 len pc l k st h isI = _ at hs
    obtain ⟨v, -, -, -, hq⟩ := mLd_inv hs
    cases hq
  | lload_n k =>
    change mLd 1 len pc l k st h isL = _ at hs
    obtain ⟨v, -, -, -, hq⟩ := mLd_inv hs
    cases hq
  | lload k =>
    change mLd 2 len pc l k st h isL = _ at hs
    obtain ⟨v, -, -, -, hq⟩ := mLd_inv hs
    cases hq
  | aload_n k =>
    change mLd 1 len pc l k st h isA = _ at hs
    obtain ⟨v, -, -, -, hq⟩ := mLd_inv hs
    cases hq
  | aload k =>
    change mLd 2 len pc l k st h isA = _ at hs
    obtain ⟨v, -, -, -, hq⟩ := mLd_inv hs
    cases hq
  | istore_n k =>
    change mStI 1 len pc l k st h = _ at hs
    obtain ⟨x, r, -, -, -, hq⟩ := mStI_inv hs
    cases hq
  | istore k =>
    change mStI 2 len pc l k st h = _ at hs
    obtain ⟨x, r, -, -, -, hq⟩ := mStI_inv hs
    cases hq
  | lstore_n k =>
    change mStL 1 len pc l k st h = _ at hs
    obtain ⟨x, r, -, -, -, hq⟩ := mStL_inv hs
    cases hq
  | lstore k =>
    change mStL 2 len pc l k st h = _ at hs
    obtain ⟨x, r, -, -, -, hq⟩ := mStL_inv hs
    cases hq
  | astore_n k =>
    change mStA 1 len pc l k st h = _ at hs
    obtain ⟨x, r, -, -, -, -, hq⟩ := mStA_inv hs
    cases hq
  | astore k =>
    change mStA 2 len pc l k st h = _ at hs
    obtain ⟨x, r, -, -, -, -, hq⟩ := mStA_inv hs
    cases hq
  | iinc k n =>
    change (match l[k]? with | some (some (.int x)) => mGo 3 len pc (mSt1 l k (.int (x + Int32.ofInt n))) st h | _ => none) = _ at hs
    split at hs
    · obtain ⟨-, hq⟩ := mGo_inv hs
      cases hq
    · cases hs
  | iadd =>
    change mII len pc l st h (fun x y => x + y) = _ at hs
    obtain ⟨x, z, r, -, -, hq⟩ := mII_inv hs
    cases hq
  | isub =>
    change mII len pc l st h (fun x y => x - y) = _ at hs
    obtain ⟨x, z, r, -, -, hq⟩ := mII_inv hs
    cases hq
  | imul =>
    change mII len pc l st h (fun x y => x * y) = _ at hs
    obtain ⟨x, z, r, -, -, hq⟩ := mII_inv hs
    cases hq
  | iand =>
    change mII len pc l st h (fun x y => x &&& y) = _ at hs
    obtain ⟨x, z, r, -, -, hq⟩ := mII_inv hs
    cases hq
  | ior =>
    change mII len pc l st h (fun x y => x ||| y) = _ at hs
    obtain ⟨x, z, r, -, -, hq⟩ := mII_inv hs
    cases hq
  | ixor =>
    change mII len pc l st h (fun x y => x ^^^ y) = _ at hs
    obtain ⟨x, z, r, -, -, hq⟩ := mII_inv hs
    cases hq
  | ishl =>
    change mII len pc l st h (fun x y => x <<< (y &&& 31)) = _ at hs
    obtain ⟨x, z, r, -, -, hq⟩ := mII_inv hs
    cases hq
  | ishr =>
    change mII len pc l st h (fun x y => x >>> (y &&& 31)) = _ at hs
    obtain ⟨x, z, r, -, -, hq⟩ := mII_inv hs
    cases hq
  | iushr =>
    change mII len pc l st h (fun x y => (x.toUInt32 >>> (y.toUInt32 &&& Int32.toUInt32 31)).toInt32) = _ at hs
    obtain ⟨x, z, r, -, -, hq⟩ := mII_inv hs
    cases hq
  | idiv =>
    change mIZ len pc l st h (fun x y => x / y) = _ at hs
    obtain ⟨x, z, r, -, -, -, hq⟩ := mIZ_inv hs
    cases hq
  | irem =>
    change mIZ len pc l st h (fun x y => x - x / y * y) = _ at hs
    obtain ⟨x, z, r, -, -, -, hq⟩ := mIZ_inv hs
    cases hq
  | ineg =>
    change mI1 len pc l st h (fun x => .int (-x)) = _ at hs
    obtain ⟨x, r, -, -, hq⟩ := mI1_inv hs
    cases hq
  | ladd =>
    change mLL len pc l st h (fun x y => .long (x + y)) = _ at hs
    obtain ⟨x, z, r, -, -, hq⟩ := mLL_inv hs
    cases hq
  | lsub =>
    change mLL len pc l st h (fun x y => .long (x - y)) = _ at hs
    obtain ⟨x, z, r, -, -, hq⟩ := mLL_inv hs
    cases hq
  | lmul =>
    change mLL len pc l st h (fun x y => .long (x * y)) = _ at hs
    obtain ⟨x, z, r, -, -, hq⟩ := mLL_inv hs
    cases hq
  | land =>
    change mLL len pc l st h (fun x y => .long (x &&& y)) = _ at hs
    obtain ⟨x, z, r, -, -, hq⟩ := mLL_inv hs
    cases hq
  | lor =>
    change mLL len pc l st h (fun x y => .long (x ||| y)) = _ at hs
    obtain ⟨x, z, r, -, -, hq⟩ := mLL_inv hs
    cases hq
  | lcmp =>
    change mLL len pc l st h (fun x y => .int (lg_cmp x y)) = _ at hs
    obtain ⟨x, z, r, -, -, hq⟩ := mLL_inv hs
    cases hq
  | ldiv =>
    change mLZ len pc l st h (fun x y => .long (x / y)) = _ at hs
    obtain ⟨x, z, r, -, -, -, hq⟩ := mLZ_inv hs
    cases hq
  | lrem =>
    change mLZ len pc l st h (fun x y => .long (x - x / y * y)) = _ at hs
    obtain ⟨x, z, r, -, -, -, hq⟩ := mLZ_inv hs
    cases hq
  | lshl =>
    change mLI len pc l st h (fun x y => x <<< (y.toInt64 &&& 63)) = _ at hs
    obtain ⟨x, z, r, -, -, hq⟩ := mLI_inv hs
    cases hq
  | lshr =>
    change mLI len pc l st h (fun x y => x >>> (y.toInt64 &&& 63)) = _ at hs
    obtain ⟨x, z, r, -, -, hq⟩ := mLI_inv hs
    cases hq
  | lushr =>
    change mLI len pc l st h (fun x y => (x.toUInt64 >>> (y.toInt64.toUInt64 &&& Int64.toUInt64 63)).toInt64) = _ at hs
    obtain ⟨x, z, r, -, -, hq⟩ := mLI_inv hs
    cases hq
  | i2l =>
    change mI1 len pc l st h (fun x => .long x.toInt64) = _ at hs
    obtain ⟨x, r, -, -, hq⟩ := mI1_inv hs
    cases hq
  | i2b =>
    change mI1 len pc l st h (fun x => .int x.toInt8.toInt32) = _ at hs
    obtain ⟨x, r, -, -, hq⟩ := mI1_inv hs
    cases hq
  | i2c =>
    change mI1 len pc l st h (fun x => .int (x.toUInt32 % 65536).toInt32) = _ at hs
    obtain ⟨x, r, -, -, hq⟩ := mI1_inv hs
    cases hq
  | l2i =>
    change mL1 len pc l st h (fun x => .int x.toInt32) = _ at hs
    obtain ⟨x, r, -, -, hq⟩ := mL1_inv hs
    cases hq
  | dup =>
    change (match st with | v :: r => if v.category = 1 then mGo 1 len pc l (v :: v :: r) h else none | _ => none) = _ at hs
    split at hs
    · split at hs
      · obtain ⟨-, hq⟩ := mGo_inv hs
        cases hq
      · cases hs
    · cases hs
  | dup2 =>
    change (match st with | v :: w :: r => if v.category = 1 ∧ w.category = 1 then mGo 1 len pc l (v :: w :: v :: w :: r) h else none | _ => none) = _ at hs
    split at hs
    · split at hs
      · obtain ⟨-, hq⟩ := mGo_inv hs
        cases hq
      · cases hs
    · cases hs
  | pop =>
    change (match st with | v :: r => if v.category = 1 then mGo 1 len pc l (r) h else none | _ => none) = _ at hs
    split at hs
    · split at hs
      · obtain ⟨-, hq⟩ := mGo_inv hs
        cases hq
      · cases hs
    · cases hs
  | ifCond cc off =>
    change mIf cc len pc l st h off = _ at hs
    obtain ⟨x, r, -, t, -, -, hq⟩ := mIf_inv hs
    cases hq
  | if_icmp cc off =>
    change mIc cc len pc l st h off = _ at hs
    obtain ⟨x, z, r, -, t, -, -, hq⟩ := mIc_inv hs
    cases hq
  | ifnull off =>
    change mNl true len pc l st h off = _ at hs
    rcases mNl_inv hs with ⟨r, -, t, -, -, hq⟩ | ⟨a, r, -, t, -, -, hq⟩ <;> (cases hq)
  | ifnonnull off =>
    change mNl false len pc l st h off = _ at hs
    rcases mNl_inv hs with ⟨r, -, t, -, -, hq⟩ | ⟨a, r, -, t, -, -, hq⟩ <;> (cases hq)
  | goto off =>
    change mJp len pc l st h true off = _ at hs
    obtain ⟨t, -, -, hq⟩ := mJp_inv hs
    cases hq
  | tableswitch d lo hi os =>
    change mSw pc l st h d lo hi os = _ at hs
    obtain ⟨x, r, o, -, -, t, -, hq⟩ := mSw_inv hs
    cases hq
  | iaload =>
    change mAl oH X 0 len pc l st h = _ at hs
    obtain ⟨j, a, r, -, -, ⟨-, -, -, hq⟩ | ⟨v, -, hq⟩⟩ := mAl_inv hs <;> (cases hq)
  | baload =>
    change mAl oH X 1 len pc l st h = _ at hs
    obtain ⟨j, a, r, -, -, ⟨-, -, -, hq⟩ | ⟨v, -, hq⟩⟩ := mAl_inv hs <;> (cases hq)
  | caload =>
    change mAl oH X 2 len pc l st h = _ at hs
    obtain ⟨j, a, r, -, -, ⟨-, -, -, hq⟩ | ⟨v, -, hq⟩⟩ := mAl_inv hs <;> (cases hq)
  | aaload =>
    change mAl oH X 3 len pc l st h = _ at hs
    obtain ⟨j, a, r, -, -, ⟨-, -, -, hq⟩ | ⟨v, -, hq⟩⟩ := mAl_inv hs <;> (cases hq)
  | iastore =>
    change mAs oH 0 len pc l st h = _ at hs
    obtain ⟨v, j, a, r, h2, -, -, hv, hq⟩ := mAs_inv hs
    cases hq
  | bastore =>
    change mAs oH 1 len pc l st h = _ at hs
    obtain ⟨v, j, a, r, h2, -, -, hv, hq⟩ := mAs_inv hs
    cases hq
  | castore =>
    change mAs oH 2 len pc l st h = _ at hs
    obtain ⟨v, j, a, r, h2, -, -, hv, hq⟩ := mAs_inv hs
    cases hq
  | aastore =>
    change mAs oH 3 len pc l st h = _ at hs
    obtain ⟨v, j, a, r, h2, -, -, hv, hq⟩ := mAs_inv hs
    cases hq
  | arraylength =>
    change mAn oH X len pc l st h = _ at hs
    obtain ⟨a, r, -, -, ⟨-, hq⟩ | ⟨v, -, hq⟩⟩ := mAn_inv hs <;> (cases hq)
  | newarray at1 =>
    cases at1 with
    | int =>
      change mNa oH 2 0 len pc l st h = _ at hs
      obtain ⟨n, r, z, -, hv, -, hq⟩ := mNa_inv hs
      cases hq
    | boolean =>
      change mNa oH 2 1 len pc l st h = _ at hs
      obtain ⟨n, r, z, -, hv, -, hq⟩ := mNa_inv hs
      cases hq
    | char =>
      change mNa oH 2 2 len pc l st h = _ at hs
      obtain ⟨n, r, z, -, hv, -, hq⟩ := mNa_inv hs
      cases hq
    | byte =>
      change mNa oH 2 3 len pc l st h = _ at hs
      obtain ⟨n, r, z, -, hv, -, hq⟩ := mNa_inv hs
      cases hq
    | _ => cases hs
  | anewarray idx =>
    change (if mAt (mOwn y) idx then mNa oH 3 4 len pc l st h else none) = _ at hs
    split at hs
    · obtain ⟨n, r, z, -, hv, -, hq⟩ := mNa_inv hs
      cases hq
    · cases hs
  | getfield idx =>
    change mGf oH y len pc l st h idx = _ at hs
    obtain ⟨a, r, z, v, -, -, -, -, hq⟩ := mGf_inv hs
    cases hq
  | putfield idx =>
    change mPf oH y len pc l st h idx = _ at hs
    obtain ⟨v, a, r, z, h2, -, -, -, hv, -, hq⟩ := mPf_inv hs
    cases hq
  | new idx =>
    change mNw oH y len pc l st h idx = _ at hs
    obtain ⟨ci, z, -, hv, -, hq⟩ := mNw_inv hs
    cases hq
  | _ => first | (cases hs; done) | (simp [mIns] at hs; done)
end
section
/-! the machine's run, over the kit's worlds -/
theorem gOK_warm {D : va_G} {tc : Nat → ClassId} {b : Nat} {X : mX} {s U : State} (hg : gOK D tc b X s) (hW : s.WarmedH U.vm) (hh : U.heap[b]? = s.heap[b]?) : gOK D tc b X U := by
  obtain ⟨g1, g2, g3, g4, g5⟩ := hg
  exact ⟨va_K.moved hW.alike g1, fun a i c n d hw => va_Nw.warmF hW (g2 a i c n d hw), fun a i x hw => va_Nw.warmM hW (g3 a i x hw), va_AO.moved hW.alike g4, (va_X.moved hW.alike g5).kept hh⟩
theorem gOK_calling {D : va_G} {tc : Nat → ClassId} {b : Nat} {X : mX} {U : State} {g : JFrame} {mk : MethodId} {a : Array Value} (hg : gOK D tc b X U) : gOK D tc b X (U.calling g mk a) := by
  obtain ⟨g1, g2, g3, g4, g5⟩ := hg
  exact ⟨va_K.moved (u := U) (U := U.calling g mk a) (Vm.Alike.refl U.vm) g1, fun x i c n d hw => va_Nw.same rfl rfl (g2 x i c n d hw), fun x i z hw => va_Nw.same rfl rfl (g3 x i z hw), va_AO.moved (u := U) (U := U.calling g mk a) (Vm.Alike.refl U.vm) g4, va_X.moved (u := U) (U := U.calling g mk a) (Vm.Alike.refl U.vm) g5⟩
theorem mRo_inv {ty : Option FieldType} {x : Int32} (h : mRo ty x = true) : ∃ t, ty = some t ∧ narrow t (.int x) = .int x := by
  unfold mRo at h
  split at h
  · exact ⟨_, rfl, rfl⟩
  · refine ⟨_, rfl, ?_⟩
    simp only [Bool.or_eq_true, decide_eq_true_eq] at h
    rcases h with rfl | rfl
    · decide
    · decide
  · obtain ⟨q, hq, rfl⟩ := vp_in_of (inb_in h) (by decide)
    exact ⟨_, rfl, (pk_charN hq).1⟩
  · cases h
theorem mRa_inv {ty : Option FieldType} (h : mRa ty = true) : ∃ t, ty = some t ∧ ((∃ n, t = .object n) ∨ ∃ z, t = .array z) := by
  unfold mRa at h
  split at h
  · next n => exact ⟨_, rfl, Or.inl ⟨n, rfl⟩⟩
  · next z => exact ⟨_, rfl, Or.inr ⟨z, rfl⟩⟩
  · cases h
theorem G_good {w : Cond} (h : w ∈ lw_G) : goodWord w = true := (List.mem_filter.mp h).2
def mWs (y : Nat) : List Cond := Cond.code (mNm y) (mCd y) (mMx y) (mRt y) :: lw_G
theorem mWs_good {y : Nat} (hy : y < mCount) (hl : (mNm y).cls ≠ "CarryAlikeLaw") : GoodIn lw_G (mWs y) := by
  intro w hw
  have hm : w ∈ lw_G := by
    rcases List.mem_cons.mp hw with rfl | h
    · exact (mY_get hy hl).1
    · exact h
  exact ⟨hm, good_of_word (G_good hm)⟩
def mRoom (y mc ms : Nat) : Room := { frames := mFr y, cells := mc, slots := ms, locals := mLo y }
def mPc (D : va_G) (tc : Nat → ClassId) (b base : Nat) (X : mX) (as : List Value) (h : mH) : Array Value → State → Prop := fun a U => a = (as.map (cV b base)).toArray ∧ gOK D tc b X U ∧ wOK D tc b base h U.heap ∧ b < U.heap.size
def mQc (D : va_G) (tc : Nat → ClassId) (b base : Nat) (v : Option Value) (h : mH) : Array Value → State → Outcome → State → Prop := fun _ st o t => o = .returned (v.map (cV b base)) ∧ wOK D tc b base h t.heap ∧ va_F (fun q : Nat => base ≤ q) st t
/-- what the induction says of runs of n steps -/
def RunsOK (n : Nat) : Prop := ∀ {y pc : Nat} {l : mL} {st : List Value} {h : mH} {X : mX} {v : Option Value} {h' : mH}, mRun oH X n y pc l st h = some (v, h') →
  ∀ {p : Program} {L : Launch} {e : Env} {R : Room} {s : State} {m : MethodId} {args : Array Value} {below : List Frame} {meth : Method} {c : Code} {H : Heap} {locs : List Loc} {cells slots : Nat} {Q : State → Prop} {D : va_G} {tc : Nat → ClassId} {b base : Nat} {ls : Array Slot},
  cOK p R s m args meth c y → gOK D tc b X s → b < s.heap.size → ¬ base ≤ b → wOK D tc b base h H → va_S (fun q : Nat => base ≤ q) s.heap H locs → lOK b base ls (mMx y) l → cells + (h'.length - h.length) ≤ R.cells → slots + (hSz h' - hSz h) ≤ R.slots →
  (∀ H1 locs1 ls1 pc1, kOK D tc b base s.heap h' H1 locs1 → retOK y v pc1 → W p L e R s m args below meth c H1 locs1 (cells + (h'.length - h.length)) (slots + (hSz h' - hSz h)) Q (F0 m pc1 ls1 ((v.toList).map (cV b base)))) →
  W p L e R s m args below meth c H locs cells slots Q (F0 m pc ls (st.map (cV b base)))
theorem met_of {n : Nat} (IH : RunsOK n) {y : Nat} (hy : y < mCount) (hl : (mNm y).cls ≠ "CarryAlikeLaw") {as : List Value} {X : mX} {h h' : mH} {v : Option Value} (hr : mRun oH X n y 0 (mEnt as (mMx y)) [] h = some (v, h')) (has : (mEn as).length ≤ mMx y) (L : Launch) {D : va_G} {tc : Nat → ClassId} {b base : Nat} (hbb : ¬ base ≤ b) :
    Met L (mNm y) (mWs y) (mRoom y (h'.length - h.length) (hSz h' - hSz h)) (mPc D tc b base X as h) (mQc D tc b base v h') (h'.length - h.length) (hSz h' - hSz h) (fun q : Nat => base ≤ q) := by
  obtain ⟨a1, a2, a3, a4, a5, a6, a7, a8, a9⟩ := mY_get hy hl
  refine Met.ofW (cc := mCd y) (maxL := mMx y) (ret := mRt y) a7 rfl ?_
  intro p e s m args below meth c s₁ B hml hv
  obtain ⟨rfl, hg, hw, hb1⟩ := hv
  have hts := atoms_spec (ws := mWs y) B.pre
  have hown : s.vm.findClass (mCn (mOwn y)) = some m.cls := by rw [a8]; exact findClass_of_methodNamed B.named
  have hlocks := B.notSynchronized
  have hx := B.exec
  have hb := B.bytes
  have hret := B.returns
  rw [lg_entry_eq]
  have hl0 := lOK_entry (b := b) (base := base) (n := mMx y) has
  have hC : cOK p (headSpec (mWs y) (mRoom y (h'.length - h.length) (hSz h' - hSz h))).room s m (as.map (cV b base)).toArray meth c y := ⟨hx, hb, hml, hret, hown, fun w hw => hts w (List.mem_cons_of_mem _ hw), fun hi => (name_of_methodNamed B.named B.method).1.trans (a9 hi).1, Nat.le_refl _, Nat.le_refl _⟩
  refine IH hr (D := D) (tc := tc) (b := b) (base := base) (st := []) hC hg hb1 hbb hw va_S.rf hl0 (by rw [Nat.zero_add]; exact Nat.le_refl _) (by rw [Nat.zero_add]; exact Nat.le_refl _) ?_
  intro H1 locs1 ls1 pc1 hk hro
  rw [Nat.zero_add, Nat.zero_add]
  rcases hro with ⟨x, rfl, e1, hd⟩ | ⟨x, rfl, e1, hd⟩ | ⟨x, rfl, e2, e1, hd⟩ | ⟨rfl, e1, hd⟩
  · obtain ⟨t, e3, e4⟩ := mRo_inv e1
    exact W.zret hx hb (hret.trans e3) e4 (fun t ht hW => ⟨rfl, by rw [ht]; exact hk.1, hk.2.F ht⟩) hk.2.2.2 hd
  · exact W.lret hx hb (hret.trans e1) (fun t ht hW => ⟨rfl, by rw [ht]; exact hk.1, hk.2.F ht⟩) hk.2.2.2 hd
  · obtain ⟨t, e3, e4⟩ := mRa_inv e1
    refine W.aret hx hb (hret.trans e3) e4 ?_ (fun t ht hW => ⟨rfl, by rw [ht]; exact hk.1, hk.2.F ht⟩) hk.2.2.2 hd
    rcases e2 with rfl | ⟨a, rfl⟩
    · exact Or.inl rfl
    · exact Or.inr ⟨_, rfl⟩
  · exact W.vret hx hb (hret.trans e1) (fun t ht hW => ⟨rfl, by rw [ht]; exact hk.1, hk.2.F ht⟩) hk.2.2.2 hd
theorem mPc_blind {D : va_G} {tc : Nat → ClassId} {b base : Nat} {X : mX} {as : List Value} {h : mH} : FrameBlind (mPc D tc b base X as h) := by
  intro a U g mk hq
  obtain ⟨q1, q2, q3, q4⟩ := hq
  exact ⟨q1, gOK_calling q2, q3, q4⟩
theorem run_ok : ∀ n, RunsOK n := by
  intro n
  induction n with
  | zero => intro y pc l st h X v h' hr; simp [mRun] at hr
  | succ n IH =>
    intro y pc l st h X v h' hr p L e R s m args below meth c H locs cells slots Q D tc b base ls hc hg hb1 hbb hw hS hl hR1 hR2 kret
    rw [mRun] at hr
    have hl := lOK_mask y pc hl
    generalize hml0 : mM y pc l = l0 at hr hl
    clear hml0
    cases hs : mStep oH X y pc l0 st h with
    | none => rw [hs] at hr; cases hr
    | some q =>
      rw [hs] at hr
      obtain ⟨ins, len, hd, h2⟩ := mStep_inv hs
      have h3 := mIns_sz h2
      rcases q with ⟨pc1, l1, st1, h1⟩ | z | ⟨y1, as, pc1, l1, st1, h1⟩
      · dsimp only at hr
        have h4 := mRun_sz n hr
        have h4a : h1.length ≤ h'.length := h4.1
        have h4b : hSz h1 ≤ hSz h' := h4.2
        have h3a : h.length ≤ h1.length := h3.1
        have h3b : hSz h ≤ hSz h1 := h3.2
        refine step_ok hc hg hb1 hbb hw hS hl h2 hd (by omega) (by omega) ?_
        intro _ _ H1 locs1 ls1 hk hl1
        have ea : cells + (h1.length - h.length) + (h'.length - h1.length) = cells + (h'.length - h.length) := by omega
        have eb : slots + (hSz h1 - hSz h) + (hSz h' - hSz h1) = slots + (hSz h' - hSz h) := by omega
        refine IH hr hc hg hb1 hbb hk.1 hk.2 hl1 (by omega) (by omega) ?_
        rw [ea, eb]
        exact kret
      · obtain ⟨g1, g2, g3⟩ := mIns_ret hd h2
        cases hr
        subst g2
        have g3' : h' = h := g3
        subst g3'
        have k := kret H locs ls pc ⟨hw, hS⟩ g1
        simpa only [Nat.sub_self, Nat.add_zero] using k
      · have h3' : h1 = h := h3
        subst h3'
        dsimp only at hr
        cases hcl : mRun oH X n y1 0 (mEnt as (mMx y1)) [] h1 with
        | none => rw [hcl] at hr; cases hr
        | some vr =>
          obtain ⟨v1, h5⟩ := vr
          rw [hcl] at hr
          dsimp only at hr
          have z1 := mRun_sz n hcl
          have z2 := mRun_sz n hr
          have z1a : h1.length ≤ h5.length := z1.1
          have z1b : hSz h1 ≤ hSz h5 := z1.2
          have z2a : h5.length ≤ h'.length := z2.1
          have z2b : hSz h5 ≤ hSz h' := z2.2
          have hx := hc.1
          have hbd := hc.2.1
          have hmx := hc.2.2.1
          have hown := hc.2.2.2.2.1
          have hts := hc.2.2.2.2.2.1
          have hF1 := hc.2.2.2.2.2.2.2.1
          have hF2 := hc.2.2.2.2.2.2.2.2
          have hHs : H[b]? = s.heap[b]? := hS.2.1 b hb1 hbb
          -- what every call gives
          have key : ∀ (rest : List Value) (st0 : List Value), rest = st1.map (cV b base) → va_Run p L e R s m args below meth c H locs cells slots (h5.length - h1.length) (hSz h5 - hSz h1) (F0 m pc ls st0) rest (mQc D tc b base v1 h5 (as.map (cV b base)).toArray) (fun q : Nat => base ≤ q) → pc1 = pc + 3 → l1 = l0 → W p L e R s m args below meth c H locs cells slots Q (F0 m pc ls st0) := by
            intro rest st0 hrest hrun hpc hl1
            subst hrest
            subst hpc
            subst hl1
            intro T hT X9
            obtain ⟨v', st₀, t, T', Lc, e0, X', hL, e1, e2, ⟨hv, hw2, hF⟩, stp⟩ := hrun T hT X9
            have hv' : v' = v1.map (cV b base) := Outcome.returned.inj hv
            subst hv'
            have hsz : H.size ≤ t.heap.size := by rw [← e0]; exact hF.1
            have hkeep : ∀ q : Nat, q < H.size → ¬ base ≤ q → t.heap[q]? = H[q]? := by rw [← e0]; exact hF.2
            have hS' : va_S (fun q : Nat => base ≤ q) s.heap T'.heap (locs ++ Lc) := by
              rw [e1]
              refine ⟨Nat.le_trans hS.1 hsz, fun q g1 g2 => ?_, fun q hq => ?_⟩
              · rw [hkeep q (Nat.lt_of_lt_of_le g1 hS.1) g2]
                exact hS.2.1 q g1 g2
              · rcases List.mem_append.mp hq with h | h
                · exact hS.2.2 q h
                · exact hL q h
            have ea : cells + (h5.length - h1.length) + (h'.length - h5.length) = cells + (h'.length - h1.length) := by omega
            have eb : slots + (hSz h5 - hSz h1) + (hSz h' - hSz h5) = slots + (hSz h' - hSz h1) := by omega
            have k := IH hr (H := T'.heap) (locs := locs ++ Lc) (cells := cells + (h5.length - h1.length)) (slots := slots + (hSz h5 - hSz h1)) (ls := ls) (Q := Q) (below := below) (e := e) (L := L) hc hg hb1 hbb (by rw [e1]; exact hw2) hS' hl (by omega) (by omega) (by rw [ea, eb]; exact kret)
            obtain ⟨t2, c1, c2⟩ := k T' rfl X'
            refine ⟨t2, stp t2 ?_, c2⟩
            have ez : (v1.map (cV b base)).toList ++ st1.map (cV b base) = (v1.toList ++ st1).map (cV b base) := by cases v1 <;> rfl
            show Steps p.tables e below (T'.setTop (F0 m (pc + 3) ls ((v1.map (cV b base)).toList ++ st1.map (cV b base)))) t2
            rw [ez]
            exact c1
          have preS : PreS s H (mPc D tc b base X as h1) (as.map (cV b base)) := ⟨mPc_blind, fun U hU hW => ⟨rfl, gOK_warm hg hW (by rw [hU]; exact hHs), by rw [hU]; exact hw, by rw [hU]; exact Nat.lt_of_lt_of_le hb1 hS.1⟩⟩
          have hcells : cells + (h5.length - h1.length) ≤ R.cells ∧ slots + (hSz h5 - hSz h1) ≤ R.slots := by omega
          have fix : CallFix p m c (mCd y) (mMx y) s args lw_G (mCn (mOwn y)) := ⟨hx, hbd, hmx, hown, hts⟩
          rcases mIns_call h2 with ⟨idx, rfl, hcv⟩ | ⟨idx, rfl, hcv⟩ | ⟨idx, rfl, hcv⟩
          · obtain ⟨f1, rfl, f2, f3, f4, hsta, ⟨a, f5, f6, f7⟩, f8, f9, f10, f11, -⟩ := mCv_call hcv
            obtain ⟨hy, hnl, hlink⟩ := mM_get f1
            obtain ⟨a1, a2, a3, a4, a5, a6, a7, a8, a9⟩ := mY_get hy hnl
            simp only [mRm, Bool.and_eq_true, decide_eq_true_eq] at f9
            have hM := met_of IH hy hnl hcl f8 L (D := D) (tc := tc) (b := b) (base := base) hbb
            have f7' := f7 rfl
            unfold hCl at f7'
            split at f7'
            · next c9 fs9 e9 =>
              have hc9 : c9 = mOwn y1 := Option.some.inj f7'
              subst hc9
              obtain ⟨r9, hr9⟩ : ∃ r9, vwCl[mOwn y1]? = some r9 := by
                obtain ⟨r', q1, -⟩ := hw.1 a _ (cW_get e9)
                exact ⟨r', q1⟩
              have hrn : r9.1 = (mNm y1).cls := (mL_get hr9).2.2.2.2.2.symm.trans a8
              obtain ⟨cell, w1, w2, w3⟩ := va_recv hg.1 hw.1 hr9 (cW_get e9)
              rw [hrn] at w3
              have hsp := List.take_append_drop (mNp y1) st
              rw [f5] at hsp
              have hstk : st.map (cV b base) = (((st.take (mNp y1)).reverse).map (cV b base)).reverse ++ .ref (base + a) :: st1.map (cV b base) := by
                rw [List.map_reverse, List.reverse_reverse]
                conv => lhs; rw [← hsp]
                rw [List.map_append]
                simp [cV, cAd_at e9 hw.2.2]
              have has : as.map (cV b base) = .ref (base + a) :: ((st.take (mNp y1)).reverse).map (cV b base) := by
                rw [f6]; simp [cV, cAd_at e9 hw.2.2]
              have hn : (((st.take (mNp y1)).reverse).map (cV b base)).length = mNp y1 := by simp; omega
              have preV : PreV s H (mNm y1).cls (base + a) (mPc D tc b base X as h1) (((st.take (mNp y1)).reverse).map (cV b base)) := ⟨preS.1, ⟨cell, w1, w2, w3⟩, fun U hU hW => by rw [← has]; exact preS.2 U hU hW⟩
              have hinst := hts _ (a4 hsta)
              have hsel := hts _ (a5 hsta f4)
              have ws := pay_in hts (mWs_good hy hnl)
              have hlen : ∀ sig, parseMethodDescriptor (mNm y1).desc = some sig → mNp y1 = sig.parameters.length := fun sig hsg => by
                have := a6.2.2
                rw [hsg] at this
                exact (Option.some.inj this).symm
              have hsm2 := mSm_inv f3
              rw [← cV_sum b base] at hsm2
              rcases hlink with hlink | hlink
              · have hrun : va_Run p L e R s m args below meth c H locs cells slots (h5.length - h1.length) (hSz h5 - hSz h1) (F0 m pc ls (st.map (cV b base))) (st1.map (cV b base)) (mQc D tc b base v1 h5 (Value.ref (base + a) :: ((st.take (mNp y1)).reverse).map (cV b base)).toArray) (fun q : Nat => base ≤ q) := va_runV fix hM ⟨⟨rfl, rfl, by show mFr y1 + 1 ≤ R.frames; omega, by show 8 + (mMx y1 + 11) + mLo y1 ≤ R.locals; omega, ws, List.mem_cons_self, hts _ a1, hts _ a2, ⟨a6.1, a6.2.1⟩, hlen, hts _ hlink⟩, hinst, hsel⟩ preV rfl hn (lOK_size hl) hstk (lv_room hsm2) hd hcells
                rw [← has] at hrun
                exact key _ _ rfl hrun f10 f11
              · have hrun : va_Run p L e R s m args below meth c H locs cells slots (h5.length - h1.length) (hSz h5 - hSz h1) (F0 m pc ls (st.map (cV b base))) (st1.map (cV b base)) (mQc D tc b base v1 h5 (Value.ref (base + a) :: ((st.take (mNp y1)).reverse).map (cV b base)).toArray) (fun q : Nat => base ≤ q) := va_runVN fix hM ⟨⟨⟨rfl, rfl, by show mFr y1 + 1 ≤ R.frames; omega, by show 8 + (mMx y1 + 11) + mLo y1 ≤ R.locals; omega, ws, List.mem_cons_self⟩, hts _ a1, hts _ a2, ⟨a6.1, a6.2.1⟩, hlen, va_Nw.use rfl (hg.2.2.1 _ _ _ hlink)⟩, hinst, hsel⟩ preV rfl hn (lOK_size hl) hstk (lv_room hsm2) hd hcells
                rw [← has] at hrun
                exact key _ _ rfl hrun f10 f11
            · cases f7'
          · obtain ⟨f1, rfl, f2, f3, f4, hsta, ⟨a, f5, f6, -⟩, f8, f9, f10, f11, -⟩ := mCv_call hcv
            obtain ⟨hy, hnl, hlink⟩ := mM_get f1
            obtain ⟨a1, a2, a3, a4, a5, a6, a7, a8, a9⟩ := mY_get hy hnl
            simp only [mRm, Bool.and_eq_true, decide_eq_true_eq] at f9
            have hM := met_of IH hy hnl hcl f8 L (D := D) (tc := tc) (b := b) (base := base) hbb
            have hsp := List.take_append_drop (mNp y1) st
            rw [f5] at hsp
            have hstk : st.map (cV b base) = (((st.take (mNp y1)).reverse).map (cV b base)).reverse ++ .ref (cAd b base a) :: st1.map (cV b base) := by
              rw [List.map_reverse, List.reverse_reverse]
              conv => lhs; rw [← hsp]
              rw [List.map_append]
              rfl
            have has : as.map (cV b base) = .ref (cAd b base a) :: ((st.take (mNp y1)).reverse).map (cV b base) := by
              rw [f6]; rfl
            have hn : (((st.take (mNp y1)).reverse).map (cV b base)).length = mNp y1 := by simp; omega
            have hrt : mRt y1 = none := (a9 f4).2
            have hinst := hts _ (a4 hsta)
            have ws := pay_in hts (mWs_good hy hnl)
            have hlen : ∀ sig, parseMethodDescriptor (mNm y1).desc = some sig → mNp y1 = sig.parameters.length := fun sig hsg => by
              have := a6.2.2
              rw [hsg] at this
              exact (Option.some.inj this).symm
            have hsm2 := mSm_inv f3
            rw [← cV_sum b base] at hsm2
            have preI : PreS s H (mPc D tc b base X as h1) (.ref (cAd b base a) :: ((st.take (mNp y1)).reverse).map (cV b base)) := by rw [← has]; exact preS
            have hcode : Cond.code (mNm y1) (mCd y1) (mMx y1) none ∈ mWs y1 := by rw [← hrt]; exact List.mem_cons_self
            have hcode2 : (Cond.code (mNm y1) (mCd y1) (mMx y1) none).before args s = true := by rw [← hrt]; exact hts _ a1
            rcases hlink with hlink | hlink
            · have hrun : va_Run p L e R s m args below meth c H locs cells slots (h5.length - h1.length) (hSz h5 - hSz h1) (F0 m pc ls (st.map (cV b base))) (st1.map (cV b base)) (mQc D tc b base v1 h5 (Value.ref (cAd b base a) :: ((st.take (mNp y1)).reverse).map (cV b base)).toArray) (fun q : Nat => base ≤ q) := va_runI fix hM ⟨⟨rfl, rfl, by show mFr y1 + 1 ≤ R.frames; omega, by show 8 + (mMx y1 + 11) + mLo y1 ≤ R.locals; omega, ws, hcode, hcode2, hts _ a2, ⟨a6.1, a6.2.1⟩, hlen, hts _ hlink⟩, (a9 f4).1, hinst⟩ preI rfl hn (lOK_size hl) hstk (lv_room hsm2) hd hcells
              rw [← has] at hrun
              exact key _ _ rfl hrun f10 f11
            · have hrun : va_Run p L e R s m args below meth c H locs cells slots (h5.length - h1.length) (hSz h5 - hSz h1) (F0 m pc ls (st.map (cV b base))) (st1.map (cV b base)) (mQc D tc b base v1 h5 (Value.ref (cAd b base a) :: ((st.take (mNp y1)).reverse).map (cV b base)).toArray) (fun q : Nat => base ≤ q) := va_runIN fix hM ⟨⟨⟨rfl, rfl, by show mFr y1 + 1 ≤ R.frames; omega, by show 8 + (mMx y1 + 11) + mLo y1 ≤ R.locals; omega, ws, hcode⟩, hcode2, hts _ a2, ⟨a6.1, a6.2.1⟩, hlen, va_Nw.use rfl (hg.2.2.1 _ _ _ hlink)⟩, (a9 f4).1, hinst⟩ preI rfl hn (lOK_size hl) hstk (lv_room hsm2) hd hcells
              rw [← has] at hrun
              exact key _ _ rfl hrun f10 f11
          · obtain ⟨f1, rfl, f2, f3, f4, f5, f6, f8, f9, f10, f11, -⟩ := mCi_call hcv
            obtain ⟨hy, hnl, hlink⟩ := mM_get f1
            obtain ⟨a1, a2, a3, a4, a5, a6, a7, a8, a9⟩ := mY_get hy hnl
            simp only [mRm, Bool.and_eq_true, decide_eq_true_eq] at f9
            have hM := met_of IH hy hnl hcl f8 L (D := D) (tc := tc) (b := b) (base := base) hbb
            have hsp := List.take_append_drop (mNp y1) st
            rw [← f5] at hsp
            have hstk : st.map (cV b base) = (as.map (cV b base)).reverse ++ st1.map (cV b base) := by
              rw [f6, List.map_reverse, List.reverse_reverse]
              conv => lhs; rw [← hsp]
              rw [List.map_append]
            have hn : (as.map (cV b base)).length = mNp y1 := by rw [f6]; simp; omega
            have hstat := hts _ (a3 f4)
            have ws := pay_in hts (mWs_good hy hnl)
            have hlen : ∀ sig, parseMethodDescriptor (mNm y1).desc = some sig → mNp y1 = sig.parameters.length := fun sig hsg => by
              have := a6.2.2
              rw [hsg] at this
              exact (Option.some.inj this).symm
            have hsm2 := mSm_inv f3
            rw [← cV_sum b base] at hsm2
            rcases hlink with hlink | hlink
            · have hrun : va_Run p L e R s m args below meth c H locs cells slots (h5.length - h1.length) (hSz h5 - hSz h1) (F0 m pc ls (st.map (cV b base))) (st1.map (cV b base)) (mQc D tc b base v1 h5 (as.map (cV b base)).toArray) (fun q : Nat => base ≤ q) := va_runS fix hM ⟨⟨rfl, rfl, by show mFr y1 + 1 ≤ R.frames; omega, by show 8 + (mMx y1 + 11) + mLo y1 ≤ R.locals; omega, ws, List.mem_cons_self, hts _ a1, hts _ a2, ⟨a6.1, a6.2.1⟩, hlen, hts _ hlink⟩, hstat⟩ preS rfl hn (lOK_size hl) hstk (lv_room hsm2) hd hcells
              exact key _ _ rfl hrun f10 f11
            · have hrun : va_Run p L e R s m args below meth c H locs cells slots (h5.length - h1.length) (hSz h5 - hSz h1) (F0 m pc ls (st.map (cV b base))) (st1.map (cV b base)) (mQc D tc b base v1 h5 (as.map (cV b base)).toArray) (fun q : Nat => base ≤ q) := va_runSN fix hM ⟨⟨⟨rfl, rfl, by show mFr y1 + 1 ≤ R.frames; omega, by show 8 + (mMx y1 + 11) + mLo y1 ≤ R.locals; omega, ws, List.mem_cons_self⟩, hts _ a1, hts _ a2, ⟨a6.1, a6.2.1⟩, hlen, va_Nw.use rfl (hg.2.2.1 _ _ _ hlink)⟩, hstat, trivial⟩ preS rfl hn (lOK_size hl) hstk (lv_room hsm2) hd hcells
              exact key _ _ rfl hrun f10 f11
end
section
/-! the law's own walk out of the machine's run -/
def yLaw : Nat := mCount - 1
def RunsLaw : Prop := ∀ X : mX, 1 ≤ X.1 → X.1 ≤ 2561 → ∃ n h', mRun oH X n yLaw 0 (mEnt [.ref mSid] 4) [] [] = some (some (.int 1), h') ∧ h'.length ≤ 600000 ∧ hSz h' ≤ 7302250
theorem hSz_nil : hSz [] = 0 := rfl
theorem yLaw_cd : mCd yLaw = code := rfl
theorem yLaw_mx : mMx yLaw = 4 := by decide +kernel
theorem yLaw_rt : mRt yLaw = some .boolean := rfl
theorem yLaw_cn : mCn (mOwn yLaw) = "CarryAlikeLaw" := by decide +kernel
theorem yLaw_ini : mIni yLaw = false := by decide +kernel
theorem yLaw_room : mFr yLaw ≤ 11 ∧ mLo yLaw ≤ 422 := by decide +kernel
theorem law_go (LR : RunsLaw) {p : Program} {e : Env} {s : State} {m : MethodId} {below : List Frame} {meth : Method} {c : Code} (l : Launch) {Q : State → Prop} {b L : Nat} {xs : Nat → Int32} (hL : L ≤ 2560)
    (hx : p.tables.exec = Jvm.exec) (hb : c.code = code) (hr : meth.sig.returnType = some .boolean) (hml : c.maxLocals = 4) (hown : s.vm.findClass "CarryAlikeLaw" = some m.cls) (hts : ∀ w ∈ lw_tbl, w.before #[Value.ref b] s = true) (hX : va_X b L xs s s.heap) (hbl : b < s.heap.size)
    (hend : ∀ (H1 : Heap) (pc : Nat) (ls : Array Slot), decode code pc = .ok (.ireturn, 1) → W p l e room_1 s m #[Value.ref b] below meth c H1 [] 600000 7302250 Q (F0 m pc ls [.int 1])) :
    W p l e room_1 s m #[Value.ref b] below meth c s.heap [] 0 0 Q (entryFrame m ([Value.ref b] : List Value).toArray 4) := by
  obtain ⟨n, h', hrun, hz1, hz2⟩ := LR (L + 1, xs) (Nat.succ_pos L) (Nat.succ_le_succ hL)
  have htG : ∀ w ∈ lw_G, w.before #[Value.ref b] s = true := fun w hw => hts w (List.mem_filter.mp hw).1
  have hD : ∀ k : Nat, ∃ z : ClassId × (Nat → Nat), ∀ q : vw_C, vwCl[k]? = some q → u_Kn s q.1 q.2.1 q.2.2 z.1 z.2 := by
    intro k
    cases hq : vwCl[k]? with
    | none => exact ⟨(0, fun _ => 0), fun q h => by cases h⟩
    | some q =>
      obtain ⟨l1, l2, l3, -⟩ := mL_get hq
      obtain ⟨cC, iS, hK⟩ := u_known htG l3 (htG _ l1)
      exact ⟨(cC, iS), fun q' h => by cases h; exact hK⟩
  have hA : ∀ t : Nat, ∃ cA : ClassId, ∀ ty, mTys[t]? = some ty → ArrOfT s cA ty ∧ va_RA s cA ty := by
    intro t
    have prim : ∀ ty : FieldType, (Cond.arrayClass ty).before #[Value.ref b] s = true → (∀ U cA, va_RA U cA ty = (U.vm.findClass ("[" ++ ty.toString) = some cA)) → ∃ cA : ClassId, ArrOfT s cA ty ∧ va_RA s cA ty := by
      intro ty h1 h2
      obtain ⟨cA, kA, comp, f1, f2, f3⟩ := Cond.arrayClass_spec h1
      exact ⟨cA, fun n z => ⟨(fun k h => by cases h), kA, f2, comp, f3⟩, by rw [h2]; exact f1⟩
    match t with
    | 0 => obtain ⟨cA, h⟩ := prim .int (hts _ (List.mem_of_getElem? mAr_w.1)) (fun _ _ => rfl); exact ⟨cA, fun ty e => by cases e; exact h⟩
    | 1 => obtain ⟨cA, h⟩ := prim .boolean (hts _ (List.mem_of_getElem? mAr_w.2.1)) (fun _ _ => rfl); exact ⟨cA, fun ty e => by cases e; exact h⟩
    | 2 => obtain ⟨cA, h⟩ := prim .char (hts _ (List.mem_of_getElem? mAr_w.2.2.1)) (fun _ _ => rfl); exact ⟨cA, fun ty e => by cases e; exact h⟩
    | 3 => obtain ⟨cA, h⟩ := prim .byte (hts _ (List.mem_of_getElem? mAr_w.2.2.2.1)) (fun _ _ => rfl); exact ⟨cA, fun ty e => by cases e; exact h⟩
    | 4 =>
      obtain ⟨comp, cA, kA, f1, -, f2, f3, f4⟩ := Cond.arrayOver_spec (hts _ (List.mem_of_getElem? mAr_w.2.2.2.2))
      exact ⟨cA, fun ty e => by cases e; exact ⟨fun n z => ⟨(fun k h => by cases h), kA, f2, comp, f3⟩, kA, comp, f2, f3, f1, f4⟩⟩
    | t + 5 => exact ⟨0, fun ty e => by simp [mTys] at e⟩
  have hg : gOK (fun k => (Classical.choose (hD k)).1, fun k => (Classical.choose (hD k)).2) (fun t => Classical.choose (hA t)) b (L + 1, xs) s := by
    refine ⟨⟨fun k q hq => Classical.choose_spec (hD k) q hq, fun k q hq => ?_⟩, fun a i c n d hw => va_Nw.of rfl (hts _ hw), fun a i x hw => va_Nw.of rfl (hts _ hw), va_AO.of (A := #[Value.ref b]) (hts _ (List.mem_of_getElem? mAr_w.2.2.2.2)), hX⟩
    match k, hq with
    | 0, hq => cases hq; exact Classical.choose_spec (hA 0) _ rfl
    | 1, hq => cases hq; exact Classical.choose_spec (hA 1) _ rfl
    | 2, hq => cases hq; exact Classical.choose_spec (hA 2) _ rfl
    | 3, hq => cases hq; exact Classical.choose_spec (hA 3) _ rfl
    | 4, hq => cases hq; exact Classical.choose_spec (hA 4) _ rfl
    | k + 5, hq => simp [tysL] at hq
  have hw : wOK (fun k => (Classical.choose (hD k)).1, fun k => (Classical.choose (hD k)).2) (fun t => Classical.choose (hA t)) b s.heap.size [] s.heap := ⟨fun k q h => by simp [cW] at h, rfl, Nat.zero_le _⟩
  have hc : cOK p room_1 s m #[Value.ref b] meth c yLaw := ⟨hx, hb, by rw [hml, yLaw_mx], hr, by rw [yLaw_cn]; exact hown, htG, fun h => (by rw [yLaw_ini] at h; cases h), yLaw_room.1, yLaw_room.2⟩
  rw [lg_entry_eq]
  have hl0 := lOK_entry (b := b) (base := s.heap.size) (n := 4) (vs := [.ref mSid]) (by decide)
  have ev : ([Value.ref mSid].map (cV b s.heap.size)) = [.ref b] := by simp [cV, cAd]
  rw [ev] at hl0
  have hl1 : lOK b s.heap.size ((lg_sl [.ref b] ++ List.replicate (4 - (lg_sl [.ref b]).length) Slot.unset).toArray) (mMx yLaw) (mEnt [.ref mSid] 4) := by rw [yLaw_mx]; exact hl0
  refine run_ok n hrun (st := []) hc hg hbl (Nat.not_le.mpr hbl) hw va_S.rf hl1 (by rw [Nat.zero_add]; exact Nat.le_trans (Nat.sub_le _ _) hz1) (by rw [Nat.zero_add]; exact Nat.le_trans (Nat.sub_le _ _) hz2) ?_
  intro H1 locs1 ls1 pc1 hk hro
  refine va_forget (fun q hq => hk.2.2.2 q hq) ?_
  refine W.widen (k := 600000) (n := 7302250) (by rw [Nat.zero_add]; exact Nat.le_trans (Nat.sub_le _ _) hz1) (by rw [Nat.zero_add]; exact Nat.le_trans (Nat.sub_le _ _) hz2) ?_
  rcases hro with ⟨x, e0, -, hd⟩ | ⟨x, e0, -⟩ | ⟨x, e0, e1, -⟩ | ⟨e0, -⟩
  · exact hend H1 pc1 ls1 hd
  · cases e0
  · cases e0
    rcases e1 with e1 | ⟨a, e1⟩ <;> cases e1
  · cases e0
end
section
/-! behind the constructors the heap's shape stands still: numbers by cell and place -/
abbrev sK : Type := Option Nat ⊕ Bool
abbrev sC : Type := (Nat × List sK) ⊕ (Nat × Nat × Option (List (Option Nat)))
abbrev Mem : Type := (Nat → Nat → Int32) × (Nat → Nat → Int64)
def SH : List sC := [.inl (8, [.inl (some 1), .inl (some 3), .inl (some 7), .inl (some 14), .inl (some 27), .inl (some 40), .inl (some 47), .inl (some 52), .inr false, .inr false, .inr false, .inr false]),
  .inl (4, [.inl (some 2), .inr false]),
  .inr (2, 50, none),
  .inl (3, [.inl (some 4), .inl (some 5), .inl (some 6), .inr false, .inr false, .inr false, .inr false, .inr true]),
  .inr (0, 12, none),
  .inr (0, 12, none),
  .inr (1, 12, none),
  .inl (2, [.inl (some 8), .inl (some 9), .inl (some 10), .inr false, .inr false, .inr false, .inl (some 11), .inl (some 12), .inl (some 13)]),
  .inr (0, 12, none),
  .inr (0, 12, none),
  .inr (1, 12, none),
  .inr (0, 64, none),
  .inr (0, 64, none),
  .inr (0, 8, none),
  .inl (6, [.inl (some 15), .inr false, .inl (some 16), .inr false]),
  .inr (4, 5, some [some 17, some 19, some 21, some 23, some 25]),
  .inr (0, 8, none),
  .inl (7, [.inr false, .inr false, .inr false, .inr false, .inl (some 18), .inr false, .inr false]),
  .inr (0, 20, none),
  .inl (7, [.inr false, .inr false, .inr false, .inr false, .inl (some 20), .inr false, .inr false]),
  .inr (0, 20, none),
  .inl (7, [.inr false, .inr false, .inr false, .inr false, .inl (some 22), .inr false, .inr false]),
  .inr (0, 20, none),
  .inl (7, [.inr false, .inr false, .inr false, .inr false, .inl (some 24), .inr false, .inr false]),
  .inr (0, 20, none),
  .inl (7, [.inr false, .inr false, .inr false, .inr false, .inl (some 26), .inr false, .inr false]),
  .inr (0, 20, none),
  .inl (6, [.inl (some 28), .inr false, .inl (some 29), .inr false]),
  .inr (4, 5, some [some 30, some 32, some 34, some 36, some 38]),
  .inr (0, 8, none),
  .inl (7, [.inr false, .inr false, .inr false, .inr false, .inl (some 31), .inr false, .inr false]),
  .inr (0, 20, none),
  .inl (7, [.inr false, .inr false, .inr false, .inr false, .inl (some 33), .inr false, .inr false]),
  .inr (0, 20, none),
  .inl (7, [.inr false, .inr false, .inr false, .inr false, .inl (some 35), .inr false, .inr false]),
  .inr (0, 20, none),
  .inl (7, [.inr false, .inr false, .inr false, .inr false, .inl (some 37), .inr false, .inr false]),
  .inr (0, 20, none),
  .inl (7, [.inr false, .inr false, .inr false, .inr false, .inl (some 39), .inr false, .inr false]),
  .inr (0, 20, none),
  .inl (1, [.inl (some 7), .inl (some 14), .inl (some 41), .inl (some 42), .inl (some 43), .inl (some 44), .inl (some 45), .inl (some 46), .inr false, .inr false, .inr true]),
  .inr (0, 5, none),
  .inr (0, 5, none),
  .inr (0, 5, none),
  .inr (1, 5, none),
  .inr (0, 5, none),
  .inr (0, 5, none),
  .inl (0, [.inl (some 7), .inl (some 14), .inl (some 40), .inl (some 48), .inl (some 49), .inr false, .inr false, .inr false, .inl (some 50), .inl (some 51)]),
  .inr (0, 5, none),
  .inr (0, 3, none),
  .inr (0, 5, none),
  .inr (0, 5, none),
  .inl (5, [.inl (some 7), .inl (some 14), .inl (some 53), .inl (some 54), .inr false, .inr false, .inr false, .inr false, .inr false, .inr false, .inr false, .inr false, .inr false]),
  .inr (0, 512, none),
  .inr (0, 512, none),
  .inl (9, [.inr false, .inl (some 56), .inl (some 57), .inl (some 58), .inr false, .inr false, .inr false, .inr false, .inl (some 59), .inl (some 60), .inl (some 61), .inl (some 62), .inl (some 63), .inl (some 64), .inl (some 65), .inl (some 66), .inr false, .inr false, .inr false, .inl (some 67), .inr false, .inr false, .inr false, .inl (some 68), .inl (some 69), .inl (some 70), .inr false, .inr false, .inl (some 71), .inr false, .inr false, .inr false, .inl (some 72), .inl (some 73), .inl (some 74), .inr false, .inr false, .inl (some 75), .inl (some 76), .inl (some 77), .inr false, .inr true, .inr false, .inr false, .inr false, .inr false, .inl (some 78), .inl (some 79), .inl (some 80), .inl (some 81), .inl (some 82), .inl (some 83), .inr true]),
  .inr (0, 12, none),
  .inr (0, 12, none),
  .inr (1, 12, none),
  .inr (0, 5, none),
  .inr (0, 5, none),
  .inr (0, 5, none),
  .inr (0, 5, none),
  .inr (0, 100, none),
  .inr (0, 5, none),
  .inr (0, 5, none),
  .inr (0, 8, none),
  .inr (3, 50, none),
  .inr (0, 12, none),
  .inr (0, 12, none),
  .inr (1, 12, none),
  .inr (0, 5, none),
  .inr (0, 5, none),
  .inr (0, 5, none),
  .inr (0, 5, none),
  .inr (0, 512, none),
  .inr (0, 512, none),
  .inr (0, 8, none),
  .inr (0, 5, none),
  .inr (0, 5, none),
  .inr (0, 5, none),
  .inr (0, 5, none),
  .inr (0, 100, none),
  .inr (0, 8, none)]
def rX : Nat := 0
def rM : Nat := 55
def u1 (S : Mem) (a k : Nat) (x : Int32) : Mem := (fun c j => if c = a ∧ j = k then x else S.1 c j, S.2)
def u2 (S : Mem) (a k : Nat) (x : Int64) : Mem := (S.1, fun c j => if c = a ∧ j = k then x else S.2 c j)
def u3 (S : Mem) (a : Nat) (f : Nat → Int32) : Mem := (fun c => if c = a then f else S.1 c, S.2)
def sF1 (S : Mem) (a k : Nat) : sK → Value
  | .inl r => va_rf r
  | .inr false => .int (S.1 a k)
  | .inr true => .long (S.2 a k)
def sFs (S : Mem) (a : Nat) : Nat → List sK → List Value
  | _, [] => []
  | k, f :: r => sF1 S a k f :: sFs S a (k + 1) r
def sI (S : Mem) (a : Nat) : sC → mC
  | .inl (ci, fk) => .inr (ci, sFs S a 0 fk)
  | .inr (t, n, none) => .inl (t, n, .inl (S.1 a))
  | .inr (t, n, some rs) => .inl (t, n, .inr rs)
def hOf (S : Mem) : Nat → List sC → mH
  | _, [] => []
  | a, c :: r => sI S a c :: hOf S (a + 1) r
def hO (S : Mem) : mH := hOf S 0 SH
theorem sFs_get (S : Mem) (a : Nat) : ∀ (fk : List sK) (k0 k : Nat), (sFs S a k0 fk)[k]? = (fk[k]?).map (sF1 S a (k0 + k))
  | [], k0, k => by simp [sFs]
  | f :: r, k0, 0 => by simp [sFs]
  | f :: r, k0, k + 1 => by
    simp only [sFs, List.getElem?_cons_succ]
    rw [sFs_get S a r (k0 + 1) k, show k0 + 1 + k = k0 + (k + 1) by omega]
theorem sFs_len (S : Mem) (a : Nat) : ∀ (fk : List sK) (k0 : Nat), (sFs S a k0 fk).length = fk.length
  | [], _ => rfl
  | f :: r, k0 => by simp [sFs, sFs_len S a r]
theorem hOf_get (S : Mem) : ∀ (l : List sC) (a0 a : Nat), (hOf S a0 l)[a]? = (l[a]?).map (sI S (a0 + a))
  | [], a0, a => by simp [hOf]
  | c :: r, a0, 0 => by simp [hOf]
  | c :: r, a0, a + 1 => by
    simp only [hOf, List.getElem?_cons_succ]
    rw [hOf_get S r (a0 + 1) a, show a0 + 1 + a = a0 + (a + 1) by omega]
theorem hO_get (S : Mem) {a : Nat} {c : sC} (h : SH[a]? = some c) : (hO S)[a]? = some (sI S a c) := by
  unfold hO
  rw [hOf_get, h, Nat.zero_add]
  rfl
theorem hOf_len (S : Mem) : ∀ (l : List sC) (a : Nat), (hOf S a l).length = l.length
  | [], _ => rfl
  | c :: r, a => by simp [hOf, hOf_len S r]
theorem sI_same {S S' : Mem} {a : Nat} (h1 : S'.1 a = S.1 a) (h2 : S'.2 a = S.2 a) (c : sC) : sI S' a c = sI S a c := by
  rcases c with ⟨ci, fk⟩ | ⟨t, n, rs⟩
  · have : ∀ (fk : List sK) (k : Nat), sFs S' a k fk = sFs S a k fk := by
      intro fk
      induction fk with
      | nil => intro k; rfl
      | cons f r ih =>
        intro k
        simp only [sFs, ih]
        congr 1
        rcases f with r | b
        · rfl
        · cases b
          · simp [sF1, h1]
          · simp [sF1, h2]
    simp only [sI, this]
  · cases rs
    · simp only [sI, h1]
    · rfl
theorem hO_set {S S' : Mem} {a : Nat} {c : sC} {d : mC} (h : SH[a]? = some c) (hd : sI S' a c = d) (ho : ∀ b, b ≠ a → S'.1 b = S.1 b ∧ S'.2 b = S.2 b) : (hO S).set a d = hO S' := by
  apply List.ext_getElem?
  intro i
  by_cases hi : i = a
  · subst hi
    have hl : i < (hO S).length := by
      unfold hO
      rw [hOf_len]
      exact (List.getElem?_eq_some_iff.mp h).1
    rw [List.getElem?_set_self hl, hO_get S' h, hd]
  · rw [List.getElem?_set_ne (Ne.symm hi)]
    unfold hO
    rw [hOf_get, hOf_get, Nat.zero_add]
    cases SH[i]? with
    | none => rfl
    | some c2 => simp only [Option.map_some]; rw [sI_same (ho i hi).1 (ho i hi).2]
def sGf (S : Mem) (a ci k : Nat) : Option Value := match SH[a]? with
  | some (.inl (c, fk)) => if c = ci then (match fk[k]? with
    | some f => some (sF1 S a k f)
    | none => none) else none
  | _ => none
def sPf (S : Mem) (a ci k : Nat) (v : Value) : Option Mem := match SH[a]? with
  | some (.inl (c, fk)) => if c = ci ∧ hOk ci k v = true then (match fk[k]?, v with
    | some (.inr false), .int x => some (u1 S a k x)
    | some (.inr true), .long x => some (u2 S a k x)
    | _, _ => none) else none
  | _ => none
def sLd (S : Mem) (a kind : Nat) (i : Int32) : Option Value := match SH[a]? with
  | some (.inr (t, n, none)) => if inb i n = true ∧ hKi kind t = true then some (.int (S.1 a i.toNatClampNeg)) else none
  | some (.inr (t, n, some rs)) => if inb i n = true ∧ kind = 3 ∧ t = 4 then some (va_rf ((rs[i.toNatClampNeg]?).join)) else none
  | _ => none
def sSt (S : Mem) (a kind : Nat) (i : Int32) (v : Value) : Option Mem := match SH[a]?, v with
  | some (.inr (t, n, none)), .int x => if inb i n = true ∧ hKi kind t = true then some (u1 S a i.toNatClampNeg (hNar t x)) else none
  | _, _ => none
def sLn (_ : Mem) (a : Nat) : Option Int32 := match SH[a]? with
  | some (.inr (t, n, _)) => if t < 5 then some (Int32.ofNat n) else none
  | _ => none
def sCp (S : Mem) (a0 : Nat) (sp : Int32) (a : Nat) (dp n : Int32) : Option Mem := match SH[a0]?, SH[a]? with
  | some (.inr (t0, n0, none)), some (.inr (t1, n1, none)) => if t0 = 0 ∧ t1 = 0 ∧ ¬ sp < 0 ∧ ¬ dp < 0 ∧ ¬ n < 0 ∧ sp.toNatClampNeg + n.toNatClampNeg ≤ n0 ∧ dp.toNatClampNeg + n.toNatClampNeg ≤ n1 then some (u3 S a (va_cpy (S.1 a0) (S.1 a) sp.toNatClampNeg dp.toNatClampNeg n.toNatClampNeg)) else none
  | _, _ => none
def sCl (_ : Mem) (a : Nat) : Option Nat := match SH[a]? with
  | some (.inl (c, _)) => some c
  | _ => none
def oS : mO Mem := (sGf, sPf, sLd, sSt, sLn, fun _ _ => none, fun _ _ _ => none, sCp, sCl)
theorem sGf_ok {S : Mem} {a ci k : Nat} {v : Value} (h : sGf S a ci k = some v) : hGf (hO S) a ci k = some v := by
  unfold sGf at h
  split at h
  · next c fk e =>
    split at h
    · next hc =>
      split at h
      · next f e2 =>
        cases h
        unfold hGf
        rw [hO_get S e]
        simp only [sI]
        rw [if_pos hc, sFs_get, e2, Nat.zero_add]
        rfl
      · cases h
    · cases h
  · cases h
theorem sFs_set (S S' : Mem) (a k : Nat) (v : Value) : ∀ (fk : List sK) (k0 : Nat), (∀ f j, fk[j]? = some f → sF1 S' a (k0 + j) f = if k0 + j = k then v else sF1 S a (k0 + j) f) → ∀ j, k = k0 + j → (sFs S a k0 fk).set j v = sFs S' a k0 fk := by
  intro fk k0 h j hj
  apply List.ext_getElem?
  intro i
  by_cases hi : i = j
  · subst hi
    by_cases hl : i < fk.length
    · rw [List.getElem?_set_self (by rw [sFs_len]; exact hl), sFs_get, List.getElem?_eq_getElem hl]
      simp only [Option.map_some]
      rw [h _ i (List.getElem?_eq_getElem hl), if_pos hj.symm]
    · rw [List.getElem?_eq_none (by rw [List.length_set, sFs_len]; omega), List.getElem?_eq_none (by rw [sFs_len]; omega)]
  · rw [List.getElem?_set_ne (Ne.symm hi), sFs_get, sFs_get]
    cases e : fk[i]? with
    | none => rfl
    | some f =>
      simp only [Option.map_some]
      rw [h f i e, if_neg (by omega)]
theorem sPf_ok {S S' : Mem} {a ci k : Nat} {v : Value} (h : sPf S a ci k v = some S') : hPf (hO S) a ci k v = some (hO S') := by
  unfold sPf at h
  split at h
  · next c fk e =>
    split at h
    · next hc =>
      unfold hPf
      rw [hO_get S e]
      simp only [sI, sFs_len]
      split at h
      · next x e2 =>
        cases h
        rw [if_pos ⟨hc.1, (List.getElem?_eq_some_iff.mp e2).1, hc.2⟩]
        congr 1
        refine hO_set e ?_ (fun b hb => ⟨by simp [u1, hb], rfl⟩)
        simp only [sI]
        congr 2
        refine (sFs_set S _ a k _ fk 0 (fun f j hf => ?_) k (by omega)).symm
        rw [Nat.zero_add]
        rcases f with r | b
        · by_cases hj : j = k
          · subst hj; rw [hf] at e2; cases e2
          · simp [sF1, hj]
        · cases b
          · by_cases hj : j = k <;> simp [sF1, u1, hj]
          · by_cases hj : j = k
            · subst hj; rw [hf] at e2; cases e2
            · simp [sF1, u1, hj]
      · next x e2 =>
        cases h
        rw [if_pos ⟨hc.1, (List.getElem?_eq_some_iff.mp e2).1, hc.2⟩]
        congr 1
        refine hO_set e ?_ (fun b hb => ⟨rfl, by simp [u2, hb]⟩)
        simp only [sI]
        congr 2
        refine (sFs_set S _ a k _ fk 0 (fun f j hf => ?_) k (by omega)).symm
        rw [Nat.zero_add]
        rcases f with r | b
        · by_cases hj : j = k
          · subst hj; rw [hf] at e2; cases e2
          · simp [sF1, hj]
        · cases b
          · by_cases hj : j = k
            · subst hj; rw [hf] at e2; cases e2
            · simp [sF1, u2, hj]
          · by_cases hj : j = k <;> simp [sF1, u2, hj]
      · cases h
    · cases h
  · cases h
theorem sLd_ok {S : Mem} {a kind : Nat} {i : Int32} {v : Value} (h : sLd S a kind i = some v) : hLd (hO S) a kind i = some v := by
  unfold sLd at h
  unfold hLd
  split at h
  · next t n e => rw [hO_get S e]; exact h
  · next t n rs e => rw [hO_get S e]; exact h
  · cases h
theorem sSt_ok {S S' : Mem} {a kind : Nat} {i : Int32} {v : Value} (h : sSt S a kind i v = some S') : hSt (hO S) a kind i v = some (hO S') := by
  unfold sSt at h
  split at h
  · next t n x e =>
    split at h
    · next hc =>
      cases h
      unfold hSt
      rw [hO_get S e]
      simp only [sI]
      rw [if_pos hc]
      congr 1
      refine hO_set e ?_ (fun b hb => ⟨by simp [u1, hb], rfl⟩)
      simp only [sI]
      congr 4
      funext j
      simp [u1, upd]
    · cases h
  · cases h
theorem sLn_ok {S : Mem} {a : Nat} {v : Int32} (h : sLn S a = some v) : hLn (hO S) a = some v := by
  unfold sLn at h
  split at h
  · next t n rs e =>
    unfold hLn
    rw [hO_get S e]
    cases rs <;> exact h
  · cases h
theorem sCp_ok {S S' : Mem} {a0 a : Nat} {sp dp n : Int32} (h : sCp S a0 sp a dp n = some S') : hCp (hO S) a0 sp a dp n = some (hO S') := by
  unfold sCp at h
  split at h
  · next t0 n0 t1 n1 e0 e1 =>
    split at h
    · next hc =>
      cases h
      unfold hCp
      rw [hO_get S e0, hO_get S e1]
      simp only [sI]
      rw [if_pos hc]
      congr 1
      refine hO_set e1 ?_ (fun b hb => ⟨by simp [u3, hb], rfl⟩)
      simp [sI, u3]
    · cases h
  · cases h
theorem sCl_ok {S : Mem} {a ci : Nat} (h : sCl S a = some ci) : hCl (hO S) a = some ci := by
  unfold sCl at h
  split at h
  · next c fk e =>
    unfold hCl
    rw [hO_get S e]
    exact h
  · cases h
end
section
/-! one heap for another: what runs over numbers runs over cells; what runs without a script runs with one -/
def qm {σ τ : Type} (φ : σ → τ) (q : mR σ) : mR τ := match q with
  | .inl (pc, l, st, h) => .inl (pc, l, st, φ h)
  | .inr (.inl (v, h)) => .inr (.inl (v, φ h))
  | .inr (.inr (y, as, pc, l, st, h)) => .inr (.inr (y, as, pc, l, st, φ h))
def simO {σ τ : Type} (φ : σ → τ) (O1 : mO σ) (O2 : mO τ) : Prop := (∀ S a c k v, O1.gf S a c k = some v → O2.gf (φ S) a c k = some v) ∧ (∀ S a c k v S1, O1.pf S a c k v = some S1 → O2.pf (φ S) a c k v = some (φ S1)) ∧ (∀ S a k i v, O1.ld S a k i = some v → O2.ld (φ S) a k i = some v) ∧ (∀ S a k i v S1, O1.st S a k i v = some S1 → O2.st (φ S) a k i v = some (φ S1)) ∧ (∀ S a v, O1.ln S a = some v → O2.ln (φ S) a = some v) ∧ (∀ S c z, O1.nw S c = some z → O2.nw (φ S) c = some (φ z.1, z.2)) ∧ (∀ S t n z, O1.na S t n = some z → O2.na (φ S) t n = some (φ z.1, z.2)) ∧ (∀ S a0 sp a dp n S1, O1.cp S a0 sp a dp n = some S1 → O2.cp (φ S) a0 sp a dp n = some (φ S1)) ∧ (∀ S a c, O1.cl S a = some c → O2.cl (φ S) a = some c)
def simX (X X1 : mX) : Prop := X1 = X ∨ X.1 = 0
section SIM
variable {σ τ : Type} {φ : σ → τ} {O1 : mO σ} {O2 : mO τ} {X X1 : mX} {y pc len : Nat} {l : mL} {st : List Value} {S : σ}
theorem inb_0 (i : Int32) : inb i 0 = false := by simp [inb]
theorem mGo_sim {L : Nat} {q : mR σ} (hs : mGo L len pc l st S = some q) : mGo L len pc l st (φ S) = some (qm φ q) := by
  obtain ⟨rfl, rfl⟩ := mGo_inv hs
  simp [mGo, qm]
theorem mCv_sim (H : simO φ O1 O2) {sp : Bool} {idx : Nat} {q : mR σ} (hs : mCv O1 sp y len pc l st S idx = some q) : mCv O2 sp y len pc l st (φ S) idx = some (qm φ q) := by
  unfold mCv at hs ⊢
  split at hs
  · next y1 e =>
    split at hs
    · next a rest e2 =>
      split at hs
      · next hc =>
        obtain ⟨g1, g2, g3, g4, g5, g6, g7⟩ := hc
        cases hs
        have g5' : (sp || O2.cl (φ S) a == some (mOwn y1)) = true := by
          rw [Bool.or_eq_true] at g5 ⊢
          rcases g5 with g5 | g5
          · exact Or.inl g5
          · refine Or.inr ?_
            rw [beq_iff_eq] at g5 ⊢
            exact H.2.2.2.2.2.2.2.2 _ _ _ g5
        rw [if_pos ⟨g1, g2, g3, g4, g5', g6, g7⟩]
        rfl
      · cases hs
    · cases hs
  · split at hs
    · next e2 =>
      rw [if_pos e2]
      split at hs
      · split at hs
        · next e3 =>
          simp only [e3, if_true]
          exact mGo_sim hs
        · cases hs
      · cases hs
    · cases hs
theorem mCi_sim (H : simO φ O1 O2) {idx : Nat} {q : mR σ} (hs : mCi O1 y len pc l st S idx = some q) : mCi O2 y len pc l st (φ S) idx = some (qm φ q) := by
  unfold mCi at hs ⊢
  split at hs
  · next y1 e =>
    split at hs
    · next hc =>
      cases hs
      rw [if_pos hc]
      rfl
    · cases hs
  · split at hs
    · next k e =>
      split at hs
      · next e2 =>
        rw [if_pos e2]
        split at hs
        · split at hs
          · next e3 =>
            simp only [e3, if_true]
            exact mGo_sim hs
          · cases hs
        · cases hs
      · cases hs
    · split at hs
      · next e2 =>
        rw [if_pos e2]
        split at hs
        · split at hs
          · next e3 =>
            split at hs
            · next h1 e4 =>
              simp only [e3, if_true, H.2.2.2.2.2.2.2.1 _ _ _ _ _ _ _ e4]
              exact mGo_sim hs
            · cases hs
          · cases hs
        · cases hs
      · cases hs
set_option maxHeartbeats 4000000 in
theorem mIns_sim (H : simO φ O1 O2) (HX : simX X X1) {i : Instr} {q : mR σ} (hs : mIns O1 X y pc len l st S i = some q) : mIns O2 X1 y pc len l st (φ S) i = some (qm φ q) := by
  cases i with
  | iconst n =>
    change mGo 1 len pc l (.int (Int32.ofInt n) :: st) S = _ at hs
    exact mGo_sim hs
  | bipush n =>
    change mGo 2 len pc l (.int (Int8.ofInt n).toInt32 :: st) S = _ at hs
    exact mGo_sim hs
  | sipush n =>
    change mGo 3 len pc l (.int (Int16.ofInt n).toInt32 :: st) S = _ at hs
    exact mGo_sim hs
  | lconst n =>
    change mGo 1 len pc l (.long (Int64.ofNat (n : Nat)) :: st) S = _ at hs
    exact mGo_sim hs
  | aconst_null =>
    change mGo 1 len pc l (.null :: st) S = _ at hs
    exact mGo_sim hs
  | ldc idx =>
    change mCs 2 len y pc l st S idx false = _ at hs
    rcases mCs_inv hs with ⟨hw, v, e1, rfl, rfl⟩ | ⟨hw, v, e1, rfl, rfl⟩ <;> first | (cases hw; done) | simp [mIns, mCs, mGo, qm, e1]
  | ldc_w idx =>
    change mCs 3 len y pc l st S idx false = _ at hs
    rcases mCs_inv hs with ⟨hw, v, e1, rfl, rfl⟩ | ⟨hw, v, e1, rfl, rfl⟩ <;> first | (cases hw; done) | simp [mIns, mCs, mGo, qm, e1]
  | ldc2_w idx =>
    change mCs 3 len y pc l st S idx true = _ at hs
    rcases mCs_inv hs with ⟨hw, v, e1, rfl, rfl⟩ | ⟨hw, v, e1, rfl, rfl⟩ <;> first | (cases hw; done) | simp [mIns, mCs, mGo, qm, e1]
  | iload_n k =>
    change mLd 1 len pc l k st S isI = _ at hs
    obtain ⟨v, e1, e2, rfl, rfl⟩ := mLd_inv hs
    simp [mIns, mLd, mGo, qm, e1, e2]
  | iload k =>
    change mLd 2 len pc l k st S isI = _ at hs
    obtain ⟨v, e1, e2, rfl, rfl⟩ := mLd_inv hs
    simp [mIns, mLd, mGo, qm, e1, e2]
  | lload_n k =>
    change mLd 1 len pc l k st S isL = _ at hs
    obtain ⟨v, e1, e2, rfl, rfl⟩ := mLd_inv hs
    simp [mIns, mLd, mGo, qm, e1, e2]
  | lload k =>
    change mLd 2 len pc l k st S isL = _ at hs
    obtain ⟨v, e1, e2, rfl, rfl⟩ := mLd_inv hs
    simp [mIns, mLd, mGo, qm, e1, e2]
  | aload_n k =>
    change mLd 1 len pc l k st S isA = _ at hs
    obtain ⟨v, e1, e2, rfl, rfl⟩ := mLd_inv hs
    simp [mIns, mLd, mGo, qm, e1, e2]
  | aload k =>
    change mLd 2 len pc l k st S isA = _ at hs
    obtain ⟨v, e1, e2, rfl, rfl⟩ := mLd_inv hs
    simp [mIns, mLd, mGo, qm, e1, e2]
  | istore_n k =>
    change mStI 1 len pc l k st S = _ at hs
    obtain ⟨x, r, rfl, e1, rfl, rfl⟩ := mStI_inv hs
    simp [mIns, mStI, mGo, qm, e1]
  | istore k =>
    change mStI 2 len pc l k st S = _ at hs
    obtain ⟨x, r, rfl, e1, rfl, rfl⟩ := mStI_inv hs
    simp [mIns, mStI, mGo, qm, e1]
  | lstore_n k =>
    change mStL 1 len pc l k st S = _ at hs
    obtain ⟨x, r, rfl, e1, rfl, rfl⟩ := mStL_inv hs
    simp [mIns, mStL, mGo, qm, e1]
  | lstore k =>
    change mStL 2 len pc l k st S = _ at hs
    obtain ⟨x, r, rfl, e1, rfl, rfl⟩ := mStL_inv hs
    simp [mIns, mStL, mGo, qm, e1]
  | astore_n k =>
    change mStA 1 len pc l k st S = _ at hs
    obtain ⟨v, r, rfl, e0, e1, rfl, rfl⟩ := mStA_inv hs
    rcases e0 with rfl | ⟨a, rfl⟩ <;> simp [mIns, mStA, mGo, qm, e1]
  | astore k =>
    change mStA 2 len pc l k st S = _ at hs
    obtain ⟨v, r, rfl, e0, e1, rfl, rfl⟩ := mStA_inv hs
    rcases e0 with rfl | ⟨a, rfl⟩ <;> simp [mIns, mStA, mGo, qm, e1]
  | iinc k n =>
    change (match l[k]? with | some (some (.int x)) => mGo 3 len pc (mSt1 l k (.int (x + Int32.ofInt n))) st S | _ => none) = _ at hs
    split at hs
    · next x e1 =>
      obtain ⟨rfl, rfl⟩ := mGo_inv hs
      simp [mIns, mGo, qm, e1]
    · cases hs
  | iadd =>
    change mII len pc l st S (fun x y => x + y) = _ at hs
    obtain ⟨x, z, r, rfl, rfl, rfl⟩ := mII_inv hs
    rfl
  | isub =>
    change mII len pc l st S (fun x y => x - y) = _ at hs
    obtain ⟨x, z, r, rfl, rfl, rfl⟩ := mII_inv hs
    rfl
  | imul =>
    change mII len pc l st S (fun x y => x * y) = _ at hs
    obtain ⟨x, z, r, rfl, rfl, rfl⟩ := mII_inv hs
    rfl
  | iand =>
    change mII len pc l st S (fun x y => x &&& y) = _ at hs
    obtain ⟨x, z, r, rfl, rfl, rfl⟩ := mII_inv hs
    rfl
  | ior =>
    change mII len pc l st S (fun x y => x ||| y) = _ at hs
    obtain ⟨x, z, r, rfl, rfl, rfl⟩ := mII_inv hs
    rfl
  | ixor =>
    change mII len pc l st S (fun x y => x ^^^ y) = _ at hs
    obtain ⟨x, z, r, rfl, rfl, rfl⟩ := mII_inv hs
    rfl
  | ishl =>
    change mII len pc l st S (fun x y => x <<< (y &&& 31)) = _ at hs
    obtain ⟨x, z, r, rfl, rfl, rfl⟩ := mII_inv hs
    rfl
  | ishr =>
    change mII len pc l st S (fun x y => x >>> (y &&& 31)) = _ at hs
    obtain ⟨x, z, r, rfl, rfl, rfl⟩ := mII_inv hs
    rfl
  | iushr =>
    change mII len pc l st S (fun x y => (x.toUInt32 >>> (y.toUInt32 &&& Int32.toUInt32 31)).toInt32) = _ at hs
    obtain ⟨x, z, r, rfl, rfl, rfl⟩ := mII_inv hs
    rfl
  | idiv =>
    change mIZ len pc l st S (fun x y => x / y) = _ at hs
    obtain ⟨x, z, r, rfl, hz, rfl, rfl⟩ := mIZ_inv hs
    simp [mIns, mIZ, mGo, qm, hz]
  | irem =>
    change mIZ len pc l st S (fun x y => x - x / y * y) = _ at hs
    obtain ⟨x, z, r, rfl, hz, rfl, rfl⟩ := mIZ_inv hs
    simp [mIns, mIZ, mGo, qm, hz]
  | ineg =>
    change mI1 len pc l st S (fun x => .int (-x)) = _ at hs
    obtain ⟨x, r, rfl, rfl, rfl⟩ := mI1_inv hs
    rfl
  | ladd =>
    change mLL len pc l st S (fun x y => .long (x + y)) = _ at hs
    obtain ⟨x, z, r, rfl, rfl, rfl⟩ := mLL_inv hs
    rfl
  | lsub =>
    change mLL len pc l st S (fun x y => .long (x - y)) = _ at hs
    obtain ⟨x, z, r, rfl, rfl, rfl⟩ := mLL_inv hs
    rfl
  | lmul =>
    change mLL len pc l st S (fun x y => .long (x * y)) = _ at hs
    obtain ⟨x, z, r, rfl, rfl, rfl⟩ := mLL_inv hs
    rfl
  | land =>
    change mLL len pc l st S (fun x y => .long (x &&& y)) = _ at hs
    obtain ⟨x, z, r, rfl, rfl, rfl⟩ := mLL_inv hs
    rfl
  | lor =>
    change mLL len pc l st S (fun x y => .long (x ||| y)) = _ at hs
    obtain ⟨x, z, r, rfl, rfl, rfl⟩ := mLL_inv hs
    rfl
  | lcmp =>
    change mLL len pc l st S (fun x y => .int (lg_cmp x y)) = _ at hs
    obtain ⟨x, z, r, rfl, rfl, rfl⟩ := mLL_inv hs
    rfl
  | ldiv =>
    change mLZ len pc l st S (fun x y => .long (x / y)) = _ at hs
    obtain ⟨x, z, r, rfl, hz, rfl, rfl⟩ := mLZ_inv hs
    simp [mIns, mLZ, mGo, qm, hz]
  | lrem =>
    change mLZ len pc l st S (fun x y => .long (x - x / y * y)) = _ at hs
    obtain ⟨x, z, r, rfl, hz, rfl, rfl⟩ := mLZ_inv hs
    simp [mIns, mLZ, mGo, qm, hz]
  | lshl =>
    change mLI len pc l st S (fun x y => x <<< (y.toInt64 &&& 63)) = _ at hs
    obtain ⟨x, z, r, rfl, rfl, rfl⟩ := mLI_inv hs
    rfl
  | lshr =>
    change mLI len pc l st S (fun x y => x >>> (y.toInt64 &&& 63)) = _ at hs
    obtain ⟨x, z, r, rfl, rfl, rfl⟩ := mLI_inv hs
    rfl
  | lushr =>
    change mLI len pc l st S (fun x y => (x.toUInt64 >>> (y.toInt64.toUInt64 &&& Int64.toUInt64 63)).toInt64) = _ at hs
    obtain ⟨x, z, r, rfl, rfl, rfl⟩ := mLI_inv hs
    rfl
  | i2l =>
    change mI1 len pc l st S (fun x => .long x.toInt64) = _ at hs
    obtain ⟨x, r, rfl, rfl, rfl⟩ := mI1_inv hs
    rfl
  | i2b =>
    change mI1 len pc l st S (fun x => .int x.toInt8.toInt32) = _ at hs
    obtain ⟨x, r, rfl, rfl, rfl⟩ := mI1_inv hs
    rfl
  | i2c =>
    change mI1 len pc l st S (fun x => .int (x.toUInt32 % 65536).toInt32) = _ at hs
    obtain ⟨x, r, rfl, rfl, rfl⟩ := mI1_inv hs
    rfl
  | l2i =>
    change mL1 len pc l st S (fun x => .int x.toInt32) = _ at hs
    obtain ⟨x, r, rfl, rfl, rfl⟩ := mL1_inv hs
    rfl
  | dup =>
    change (match st with | v :: r => if v.category = 1 then mGo 1 len pc l (v :: v :: r) S else none | _ => none) = _ at hs
    split at hs
    · split at hs
      · next e1 =>
        obtain ⟨rfl, rfl⟩ := mGo_inv hs
        simp [mIns, mGo, qm, e1]
      · cases hs
    · cases hs
  | dup2 =>
    change (match st with | v :: w :: r => if v.category = 1 ∧ w.category = 1 then mGo 1 len pc l (v :: w :: v :: w :: r) S else none | _ => none) = _ at hs
    split at hs
    · split at hs
      · next e1 =>
        obtain ⟨rfl, rfl⟩ := mGo_inv hs
        simp [mIns, mGo, qm, e1]
      · cases hs
    · cases hs
  | pop =>
    change (match st with | v :: r => if v.category = 1 then mGo 1 len pc l (r) S else none | _ => none) = _ at hs
    split at hs
    · split at hs
      · next e1 =>
        obtain ⟨rfl, rfl⟩ := mGo_inv hs
        simp [mIns, mGo, qm, e1]
      · cases hs
    · cases hs
  | ifCond cc off =>
    change mIf cc len pc l st S off = _ at hs
    unfold mIf mJp at hs
    split at hs
    · split at hs
      · next e1 =>
        split at hs
        · next t e2 => cases hs; simp [mIns, mIf, mJp, qm, e1, e2]
        · cases hs
      · cases hs
    · cases hs
  | if_icmp cc off =>
    change mIc cc len pc l st S off = _ at hs
    unfold mIc mJp at hs
    split at hs
    · split at hs
      · next e1 =>
        split at hs
        · next t e2 => cases hs; simp [mIns, mIc, mJp, qm, e1, e2]
        · cases hs
      · cases hs
    · cases hs
  | ifnull off =>
    change mNl true len pc l st S off = _ at hs
    unfold mNl mJp at hs
    split at hs
    · split at hs
      · next e1 =>
        split at hs
        · next t e2 => cases hs; simp [mIns, mNl, mJp, qm, e1, e2]
        · cases hs
      · cases hs
    · split at hs
      · next e1 =>
        split at hs
        · next t e2 => cases hs; simp [mIns, mNl, mJp, qm, e1, e2]
        · cases hs
      · cases hs
    · cases hs
  | ifnonnull off =>
    change mNl false len pc l st S off = _ at hs
    unfold mNl mJp at hs
    split at hs
    · split at hs
      · next e1 =>
        split at hs
        · next t e2 => cases hs; simp [mIns, mNl, mJp, qm, e1, e2]
        · cases hs
      · cases hs
    · split at hs
      · next e1 =>
        split at hs
        · next t e2 => cases hs; simp [mIns, mNl, mJp, qm, e1, e2]
        · cases hs
      · cases hs
    · cases hs
  | goto off =>
    change mJp len pc l st S true off = _ at hs
    unfold mJp at hs
    split at hs
    · next e1 =>
      split at hs
      · next t e2 => cases hs; simp [mIns, mJp, qm, e1, e2]
      · cases hs
    · cases hs
  | tableswitch d lo hi os =>
    change mSw pc l st S d lo hi os = _ at hs
    unfold mSw at hs
    split at hs
    · split at hs
      · next o e1 =>
        split at hs
        · next t e2 => cases hs; simp [mIns, mSw, qm, e1, e2]
        · cases hs
      · cases hs
    · cases hs
  | iaload =>
    change mAl O1 X 0 len pc l st S = _ at hs
    change mAl O2 X1 0 len pc l st (φ S) = _
    unfold mAl at hs ⊢
    split at hs
    · next j a r =>
      split at hs
      · next ea =>
        split at hs
        · next e1 =>
          rw [if_pos ea]
          rcases HX with rfl | h0
          · rw [if_pos e1]; exact mGo_sim hs
          · rw [h0, inb_0] at e1; exact absurd e1.2 (by decide)
        · cases hs
      · next ea =>
        split at hs
        · next v e1 =>
          rw [if_neg ea, H.2.2.1 _ _ _ _ _ e1]
          exact mGo_sim hs
        · cases hs
    · cases hs
  | baload =>
    change mAl O1 X 1 len pc l st S = _ at hs
    change mAl O2 X1 1 len pc l st (φ S) = _
    unfold mAl at hs ⊢
    split at hs
    · next j a r =>
      split at hs
      · next ea =>
        split at hs
        · next e1 =>
          rw [if_pos ea]
          rcases HX with rfl | h0
          · rw [if_pos e1]; exact mGo_sim hs
          · rw [h0, inb_0] at e1; exact absurd e1.2 (by decide)
        · cases hs
      · next ea =>
        split at hs
        · next v e1 =>
          rw [if_neg ea, H.2.2.1 _ _ _ _ _ e1]
          exact mGo_sim hs
        · cases hs
    · cases hs
  | caload =>
    change mAl O1 X 2 len pc l st S = _ at hs
    change mAl O2 X1 2 len pc l st (φ S) = _
    unfold mAl at hs ⊢
    split at hs
    · next j a r =>
      split at hs
      · next ea =>
        split at hs
        · next e1 =>
          rw [if_pos ea]
          rcases HX with rfl | h0
          · rw [if_pos e1]; exact mGo_sim hs
          · rw [h0, inb_0] at e1; exact absurd e1.2 (by decide)
        · cases hs
      · next ea =>
        split at hs
        · next v e1 =>
          rw [if_neg ea, H.2.2.1 _ _ _ _ _ e1]
          exact mGo_sim hs
        · cases hs
    · cases hs
  | aaload =>
    change mAl O1 X 3 len pc l st S = _ at hs
    change mAl O2 X1 3 len pc l st (φ S) = _
    unfold mAl at hs ⊢
    split at hs
    · next j a r =>
      split at hs
      · next ea =>
        split at hs
        · next e1 =>
          rw [if_pos ea]
          rcases HX with rfl | h0
          · rw [if_pos e1]; exact mGo_sim hs
          · rw [h0, inb_0] at e1; exact absurd e1.2 (by decide)
        · cases hs
      · next ea =>
        split at hs
        · next v e1 =>
          rw [if_neg ea, H.2.2.1 _ _ _ _ _ e1]
          exact mGo_sim hs
        · cases hs
    · cases hs
  | iastore =>
    change mAs O1 0 len pc l st S = _ at hs
    obtain ⟨v, j, a, r, h1, rfl, rfl, e1, rfl⟩ := mAs_inv hs
    simp [mIns, mAs, mGo, qm, H.2.2.2.1 _ _ _ _ _ _ e1]
  | bastore =>
    change mAs O1 1 len pc l st S = _ at hs
    obtain ⟨v, j, a, r, h1, rfl, rfl, e1, rfl⟩ := mAs_inv hs
    simp [mIns, mAs, mGo, qm, H.2.2.2.1 _ _ _ _ _ _ e1]
  | castore =>
    change mAs O1 2 len pc l st S = _ at hs
    obtain ⟨v, j, a, r, h1, rfl, rfl, e1, rfl⟩ := mAs_inv hs
    simp [mIns, mAs, mGo, qm, H.2.2.2.1 _ _ _ _ _ _ e1]
  | aastore =>
    change mAs O1 3 len pc l st S = _ at hs
    obtain ⟨v, j, a, r, h1, rfl, rfl, e1, rfl⟩ := mAs_inv hs
    simp [mIns, mAs, mGo, qm, H.2.2.2.1 _ _ _ _ _ _ e1]
  | arraylength =>
    change mAn O1 X len pc l st S = _ at hs
    change mAn O2 X1 len pc l st (φ S) = _
    unfold mAn at hs ⊢
    split at hs
    · next a r =>
      split at hs
      · next ea =>
        split at hs
        · cases hs
        · next e1 =>
          rw [if_pos ea]
          rcases HX with rfl | h0
          · rw [if_neg e1]; exact mGo_sim hs
          · exact absurd h0 e1
      · next ea =>
        split at hs
        · next v e1 =>
          rw [if_neg ea, H.2.2.2.2.1 _ _ _ e1]
          exact mGo_sim hs
        · cases hs
    · cases hs
  | newarray at1 =>
    cases at1 with
    | int =>
      change mNa O1 2 0 len pc l st S = _ at hs
      obtain ⟨n, r, z, rfl, e1, rfl, rfl⟩ := mNa_inv hs
      simp [mIns, mNa, mGo, qm, H.2.2.2.2.2.2.1 _ _ _ _ e1]
    | boolean =>
      change mNa O1 2 1 len pc l st S = _ at hs
      obtain ⟨n, r, z, rfl, e1, rfl, rfl⟩ := mNa_inv hs
      simp [mIns, mNa, mGo, qm, H.2.2.2.2.2.2.1 _ _ _ _ e1]
    | char =>
      change mNa O1 2 2 len pc l st S = _ at hs
      obtain ⟨n, r, z, rfl, e1, rfl, rfl⟩ := mNa_inv hs
      simp [mIns, mNa, mGo, qm, H.2.2.2.2.2.2.1 _ _ _ _ e1]
    | byte =>
      change mNa O1 2 3 len pc l st S = _ at hs
      obtain ⟨n, r, z, rfl, e1, rfl, rfl⟩ := mNa_inv hs
      simp [mIns, mNa, mGo, qm, H.2.2.2.2.2.2.1 _ _ _ _ e1]
    | _ => cases hs
  | anewarray idx =>
    change (if mAt (mOwn y) idx then mNa O1 3 4 len pc l st S else none) = _ at hs
    split at hs
    · next e0 =>
      obtain ⟨n, r, z, rfl, e1, rfl, rfl⟩ := mNa_inv hs
      simp [mIns, mNa, mGo, qm, e0, H.2.2.2.2.2.2.1 _ _ _ _ e1]
    · cases hs
  | getfield idx =>
    change mGf O1 y len pc l st S idx = _ at hs
    obtain ⟨a, r, z, v, rfl, e1, e2, rfl, rfl⟩ := mGf_inv hs
    simp [mIns, mGf, mGo, qm, e1, H.1 _ _ _ _ _ e2]
  | putfield idx =>
    change mPf O1 y len pc l st S idx = _ at hs
    obtain ⟨v, a, r, z, h1, rfl, e1, e3, e2, rfl, rfl⟩ := mPf_inv hs
    simp only [mIns, mPf, e1, e3, H.2.1 _ _ _ _ _ _ e2]
    rfl
  | new idx =>
    change mNw O1 y len pc l st S idx = _ at hs
    obtain ⟨ci, z, e1, e2, rfl, rfl⟩ := mNw_inv hs
    simp [mIns, mNw, mGo, qm, e1, H.2.2.2.2.2.1 _ _ _ e2]
  | invokevirtual idx =>
    change mCv O1 false y len pc l st S idx = _ at hs
    exact mCv_sim H hs
  | invokespecial idx =>
    change mCv O1 true y len pc l st S idx = _ at hs
    exact mCv_sim H hs
  | invokestatic idx =>
    change mCi O1 y len pc l st S idx = _ at hs
    exact mCi_sim H hs
  | ireturn =>
    simp only [mIns] at hs ⊢
    split at hs
    · split at hs
      · next e1 => cases hs; simp [e1, qm]
      · cases hs
    · cases hs
  | lreturn =>
    simp only [mIns] at hs ⊢
    split at hs
    · split at hs
      · next e1 => cases hs; simp [e1, qm]
      · cases hs
    · cases hs
  | return_ =>
    simp only [mIns] at hs ⊢
    split at hs
    · split at hs
      · next e1 => cases hs; simp [e1, qm]
      · cases hs
    · cases hs
  | areturn =>
    simp only [mIns] at hs ⊢
    split at hs
    · split at hs
      · next e1 => cases hs; simp [e1, qm]
      · cases hs
    · split at hs
      · next e1 => cases hs; simp [e1, qm]
      · cases hs
    · cases hs
  | _ => first | (cases hs; done) | (simp [mIns] at hs; done)
theorem mRun_sim (H : simO φ O1 O2) (HX : simX X X1) : ∀ (n : Nat) {y pc : Nat} {l : mL} {st : List Value} {S S1 : σ} {v : Option Value}, mRun O1 X n y pc l st S = some (v, S1) → mRun O2 X1 n y pc l st (φ S) = some (v, φ S1) := by
  intro n
  induction n with
  | zero => intro y pc l st S S1 v hr; simp [mRun] at hr
  | succ n ih =>
    intro y pc l st S S1 v hr
    rw [mRun] at hr ⊢
    cases hs : mStep O1 X y pc (mM y pc l) st S with
    | none => rw [hs] at hr; cases hr
    | some q =>
      rw [hs] at hr
      have h2 : mStep O2 X1 y pc (mM y pc l) st (φ S) = some (qm φ q) := by
        unfold mStep at hs ⊢
        split at hs
        · exact mIns_sim H HX hs
        · cases hs
      rw [h2]
      rcases q with ⟨pc1, l1, st1, h1⟩ | ⟨v1, h1⟩ | ⟨y1, as, pc1, l1, st1, h1⟩
      · exact ih hr
      · cases hr; rfl
      · dsimp only [qm] at hr ⊢
        cases hc : mRun O1 X n y1 0 (mEnt as (mMx y1)) [] h1 with
        | none => rw [hc] at hr; cases hr
        | some z =>
          obtain ⟨v1, h3⟩ := z
          rw [hc] at hr
          rw [ih hc]
          exact ih hr
end SIM
theorem sim_SH : simO hO oS oH := ⟨fun _ _ _ _ _ h => sGf_ok h, fun _ _ _ _ _ _ h => sPf_ok h, fun _ _ _ _ _ h => sLd_ok h, fun _ _ _ _ _ _ h => sSt_ok h, fun _ _ _ h => sLn_ok h, fun _ _ _ h => (by cases h), fun _ _ _ _ h => (by cases h), fun _ _ _ _ _ _ _ h => sCp_ok h, fun _ _ _ h => sCl_ok h⟩
theorem sim_id {σ : Type} (O : mO σ) : simO (fun S : σ => S) O O := ⟨fun _ _ _ _ _ h => h, fun _ _ _ _ _ _ h => h, fun _ _ _ _ _ h => h, fun _ _ _ _ _ _ h => h, fun _ _ _ h => h, fun _ _ _ h => h, fun _ _ _ _ h => h, fun _ _ _ _ _ _ _ h => h, fun _ _ _ h => h⟩
def X0 : mX := (0, fun _ => 0)
/-- the value of a call does not hang on the script -/
theorem mV_X {X : mX} {y pc : Nat} {l : mL} {st : List Value} {S : Mem} {r : Option Value × Mem} (h : mV oS X0 y pc l st S = some r) : mV oS X y pc l st S = some r := by
  obtain ⟨n, hn⟩ := (mV_iff oS X0 y pc l st S r).mp h
  exact (mV_iff oS X y pc l st S r).mpr ⟨n, mRun_sim (sim_id oS) (Or.inr rfl) n hn⟩
end
section
/-! the machine's value, an instruction a row: equations for the blocks that a program prints -/
section TY
variable {σ : Type} {O : mO σ} {X : mX}
def tyOK (rt : Option FieldType) (v : Option Value) : Prop := (∃ x, v = some (.int x) ∧ mRo rt x = true) ∨ (∃ x, v = some (.long x) ∧ rt = some .long) ∨ (∃ x, v = some x ∧ (x = .null ∨ ∃ a, x = .ref a) ∧ mRa rt = true) ∨ (v = none ∧ rt = none)

variable {len pc : Nat} {l : mL} {st : List Value} {h : σ} {y : Nat}
theorem mCv_nrO {sp : Bool} {idx : Nat} {z : Option Value × σ} (hs : mCv O sp y len pc l st h idx = some (.inr (.inl z))) : False := by
  unfold mCv at hs
  split at hs
  · split at hs
    · split at hs <;> cases hs
    · cases hs
  · split at hs
    · split at hs
      · split at hs
        · have := (mGo_inv hs).2; cases this
        · cases hs
      · cases hs
    · cases hs
theorem mCi_nrO {idx : Nat} {z : Option Value × σ} (hs : mCi O y len pc l st h idx = some (.inr (.inl z))) : False := by
  unfold mCi at hs
  split at hs
  · split at hs <;> cases hs
  · split at hs
    · split at hs
      · split at hs
        · split at hs
          · have := (mGo_inv hs).2; cases this
          · cases hs
        · cases hs
      · cases hs
    · split at hs
      · split at hs
        · split at hs
          · split at hs
            · have := (mGo_inv hs).2; cases this
            · cases hs
          · cases hs
        · cases hs
      · cases hs
set_option maxHeartbeats 4000000 in
theorem mIns_retO {ins : Instr} {z : Option Value × σ} (hs : mIns O X y pc len l st h ins = some (.inr (.inl z))) : tyOK (mRt y) z.1 := by
  cases ins with
  | invokevirtual idx => exact (mCv_nrO (show mCv O false y len pc l st h idx = _ from hs)).elim
  | invokespecial idx => exact (mCv_nrO (show mCv O true y len pc l st h idx = _ from hs)).elim
  | invokestatic idx => exact (mCi_nrO (show mCi O y len pc l st h idx = _ from hs)).elim
  | ireturn =>
    simp only [mIns] at hs
    split at hs
    · next x =>
      split at hs
      · next e => cases hs; exact Or.inl ⟨x, rfl, e.2⟩
      · cases hs
    · cases hs
  | lreturn =>
    simp only [mIns] at hs
    split at hs
    · next x =>
      split at hs
      · next e => cases hs; exact Or.inr (Or.inl ⟨x, rfl, e.2⟩)
      · cases hs
    · cases hs
  | areturn =>
    simp only [mIns] at hs
    split at hs
    · next x =>
      split at hs
      · next e => cases hs; exact Or.inr (Or.inr (Or.inl ⟨_, rfl, Or.inr ⟨x, rfl⟩, e.2⟩))
      · cases hs
    · split at hs
      · next e => cases hs; exact Or.inr (Or.inr (Or.inl ⟨_, rfl, Or.inl rfl, e.2⟩))
      · cases hs
    · cases hs
  | return_ =>
    simp only [mIns] at hs
    split at hs
    · split at hs
      · next e => cases hs; exact Or.inr (Or.inr (Or.inr ⟨rfl, e.2⟩))
      · cases hs
    · cases hs
  | iconst n =>
    change mGo 1 len pc l (.int (Int32.ofInt n) :: st) h = _ at hs
    obtain ⟨-, hq⟩ := mGo_inv hs
    cases hq
  | bipush n =>
    change mGo 2 len pc l (.int (Int8.ofInt n).toInt32 :: st) h = _ at hs
    obtain ⟨-, hq⟩ := mGo_inv hs
    cases hq
  | sipush n =>
    change mGo 3 len pc l (.int (Int16.ofInt n).toInt32 :: st) h = _ at hs
    obtain ⟨-, hq⟩ := mGo_inv hs
    cases hq
  | lconst n =>
    change mGo 1 len pc l (.long (Int64.ofNat (n : Nat)) :: st) h = _ at hs
    obtain ⟨-, hq⟩ := mGo_inv hs
    cases hq
  | aconst_null =>
    change mGo 1 len pc l (.null :: st) h = _ at hs
    obtain ⟨-, hq⟩ := mGo_inv hs
    cases hq
  | ldc idx =>
    change mCs 2 len y pc l st h idx false = _ at hs
    rcases mCs_inv hs with ⟨-, v, -, -, hq⟩ | ⟨-, v, -, -, hq⟩ <;> (cases hq)
  | ldc_w idx =>
    change mCs 3 len y pc l st h idx false = _ at hs
    rcases mCs_inv hs with ⟨-, v, -, -, hq⟩ | ⟨-, v, -, -, hq⟩ <;> (cases hq)
  | ldc2_w idx =>
    change mCs 3 len y pc l st h idx true = _ at hs
    rcases mCs_inv hs with ⟨-, v, -, -, hq⟩ | ⟨-, v, -, -, hq⟩ <;> (cases hq)
  | iload_n k =>
    change mLd 1 len pc l k st h isI = _ at hs
    obtain ⟨v, -, -, -, hq⟩ := mLd_inv hs
    cases hq
  | iload k =>
    change mLd 2 len pc l k st h isI = _ at hs
    obtain ⟨v, -, -, -, hq⟩ := mLd_inv hs
    cases hq
  | lload_n k =>
    change mLd 1 len pc l k st h isL = _ at hs
    obtain ⟨v, -, -, -, hq⟩ := mLd_inv hs
    cases hq
  | lload k =>
    change mLd 2 len pc l k st h isL = _ at hs
    obtain ⟨v, -, -, -, hq⟩ := mLd_inv hs
    cases hq
  | aload_n k =>
    change mLd 1 len pc l k st h isA = _ at hs
    obtain ⟨v, -, -, -, hq⟩ := mLd_inv hs
    cases hq
  | aload k =>
    change mLd 2 len pc l k st h isA = _ at hs
    obtain ⟨v, -, -, -, hq⟩ := mLd_inv hs
    cases hq
  | istore_n k =>
    change mStI 1 len pc l k st h = _ at hs
    obtain ⟨x, r, -, -, -, hq⟩ := mStI_inv hs
    cases hq
  | istore k =>
    change mStI 2 len pc l k st h = _ at hs
    obtain ⟨x, r, -, -, -, hq⟩ := mStI_inv hs
    cases hq
  | lstore_n k =>
    change mStL 1 len pc l k st h = _ at hs
    obtain ⟨x, r, -, -, -, hq⟩ := mStL_inv hs
    cases hq
  | lstore k =>
    change mStL 2 len pc l k st h = _ at hs
    obtain ⟨x, r, -, -, -, hq⟩ := mStL_inv hs
    cases hq
  | astore_n k =>
    change mStA 1 len pc l k st h = _ at hs
    obtain ⟨x, r, -, -, -, -, hq⟩ := mStA_inv hs
    cases hq
  | astore k =>
    change mStA 2 len pc l k st h = _ at hs
    obtain ⟨x, r, -, -, -, -, hq⟩ := mStA_inv hs
    cases hq
  | iinc k n =>
    change (match l[k]? with | some (some (.int x)) => mGo 3 len pc (mSt1 l k (.int (x + Int32.ofInt n))) st h | _ => none) = _ at hs
    split at hs
    · obtain ⟨-, hq⟩ := mGo_inv hs
      cases hq
    · cases hs
  | iadd =>
    change mII len pc l st h (fun x y => x + y) = _ at hs
    obtain ⟨x, z, r, -, -, hq⟩ := mII_inv hs
    cases hq
  | isub =>
    change mII len pc l st h (fun x y => x - y) = _ at hs
    obtain ⟨x, z, r, -, -, hq⟩ := mII_inv hs
    cases hq
  | imul =>
    change mII len pc l st h (fun x y => x * y) = _ at hs
    obtain ⟨x, z, r, -, -, hq⟩ := mII_inv hs
    cases hq
  | iand =>
    change mII len pc l st h (fun x y => x &&& y) = _ at hs
    obtain ⟨x, z, r, -, -, hq⟩ := mII_inv hs
    cases hq
  | ior =>
    change mII len pc l st h (fun x y => x ||| y) = _ at hs
    obtain ⟨x, z, r, -, -, hq⟩ := mII_inv hs
    cases hq
  | ixor =>
    change mII len pc l st h (fun x y => x ^^^ y) = _ at hs
    obtain ⟨x, z, r, -, -, hq⟩ := mII_inv hs
    cases hq
  | ishl =>
    change mII len pc l st h (fun x y => x <<< (y &&& 31)) = _ at hs
    obtain ⟨x, z, r, -, -, hq⟩ := mII_inv hs
    cases hq
  | ishr =>
    change mII len pc l st h (fun x y => x >>> (y &&& 31)) = _ at hs
    obtain ⟨x, z, r, -, -, hq⟩ := mII_inv hs
    cases hq
  | iushr =>
    change mII len pc l st h (fun x y => (x.toUInt32 >>> (y.toUInt32 &&& Int32.toUInt32 31)).toInt32) = _ at hs
    obtain ⟨x, z, r, -, -, hq⟩ := mII_inv hs
    cases hq
  | idiv =>
    change mIZ len pc l st h (fun x y => x / y) = _ at hs
    obtain ⟨x, z, r, -, -, -, hq⟩ := mIZ_inv hs
    cases hq
  | irem =>
    change mIZ len pc l st h (fun x y => x - x / y * y) = _ at hs
    obtain ⟨x, z, r, -, -, -, hq⟩ := mIZ_inv hs
    cases hq
  | ineg =>
    change mI1 len pc l st h (fun x => .int (-x)) = _ at hs
    obtain ⟨x, r, -, -, hq⟩ := mI1_inv hs
    cases hq
  | ladd =>
    change mLL len pc l st h (fun x y => .long (x + y)) = _ at hs
    obtain ⟨x, z, r, -, -, hq⟩ := mLL_inv hs
    cases hq
  | lsub =>
    change mLL len pc l st h (fun x y => .long (x - y)) = _ at hs
    obtain ⟨x, z, r, -, -, hq⟩ := mLL_inv hs
    cases hq
  | lmul =>
    change mLL len pc l st h (fun x y => .long (x * y)) = _ at hs
    obtain ⟨x, z, r, -, -, hq⟩ := mLL_inv hs
    cases hq
  | land =>
    change mLL len pc l st h (fun x y => .long (x &&& y)) = _ at hs
    obtain ⟨x, z, r, -, -, hq⟩ := mLL_inv hs
    cases hq
  | lor =>
    change mLL len pc l st h (fun x y => .long (x ||| y)) = _ at hs
    obtain ⟨x, z, r, -, -, hq⟩ := mLL_inv hs
    cases hq
  | lcmp =>
    change mLL len pc l st h (fun x y => .int (lg_cmp x y)) = _ at hs
    obtain ⟨x, z, r, -, -, hq⟩ := mLL_inv hs
    cases hq
  | ldiv =>
    change mLZ len pc l st h (fun x y => .long (x / y)) = _ at hs
    obtain ⟨x, z, r, -, -, -, hq⟩ := mLZ_inv hs
    cases hq
  | lrem =>
    change mLZ len pc l st h (fun x y => .long (x - x / y * y)) = _ at hs
    obtain ⟨x, z, r, -, -, -, hq⟩ := mLZ_inv hs
    cases hq
  | lshl =>
    change mLI len pc l st h (fun x y => x <<< (y.toInt64 &&& 63)) = _ at hs
    obtain ⟨x, z, r, -, -, hq⟩ := mLI_inv hs
    cases hq
  | lshr =>
    change mLI len pc l st h (fun x y => x >>> (y.toInt64 &&& 63)) = _ at hs
    obtain ⟨x, z, r, -, -, hq⟩ := mLI_inv hs
    cases hq
  | lushr =>
    change mLI len pc l st h (fun x y => (x.toUInt64 >>> (y.toInt64.toUInt64 &&& Int64.toUInt64 63)).toInt64) = _ at hs
    obtain ⟨x, z, r, -, -, hq⟩ := mLI_inv hs
    cases hq
  | i2l =>
    change mI1 len pc l st h (fun x => .long x.toInt64) = _ at hs
    obtain ⟨x, r, -, -, hq⟩ := mI1_inv hs
    cases hq
  | i2b =>
    change mI1 len pc l st h (fun x => .int x.toInt8.toInt32) = _ at hs
    obtain ⟨x, r, -, -, hq⟩ := mI1_inv hs
    cases hq
  | i2c =>
    change mI1 len pc l st h (fun x => .int (x.toUInt32 % 65536).toInt32) = _ at hs
    obtain ⟨x, r, -, -, hq⟩ := mI1_inv hs
    cases hq
  | l2i =>
    change mL1 len pc l st h (fun x => .int x.toInt32) = _ at hs
    obtain ⟨x, r, -, -, hq⟩ := mL1_inv hs
    cases hq
  | dup =>
    change (match st with | v :: r => if v.category = 1 then mGo 1 len pc l (v :: v :: r) h else none | _ => none) = _ at hs
    split at hs
    · split at hs
      · obtain ⟨-, hq⟩ := mGo_inv hs
        cases hq
      · cases hs
    · cases hs
  | dup2 =>
    change (match st with | v :: w :: r => if v.category = 1 ∧ w.category = 1 then mGo 1 len pc l (v :: w :: v :: w :: r) h else none | _ => none) = _ at hs
    split at hs
    · split at hs
      · obtain ⟨-, hq⟩ := mGo_inv hs
        cases hq
      · cases hs
    · cases hs
  | pop =>
    change (match st with | v :: r => if v.category = 1 then mGo 1 len pc l (r) h else none | _ => none) = _ at hs
    split at hs
    · split at hs
      · obtain ⟨-, hq⟩ := mGo_inv hs
        cases hq
      · cases hs
    · cases hs
  | ifCond cc off =>
    change mIf cc len pc l st h off = _ at hs
    obtain ⟨x, r, -, t, -, -, hq⟩ := mIf_inv hs
    cases hq
  | if_icmp cc off =>
    change mIc cc len pc l st h off = _ at hs
    obtain ⟨x, z, r, -, t, -, -, hq⟩ := mIc_inv hs
    cases hq
  | ifnull off =>
    change mNl true len pc l st h off = _ at hs
    rcases mNl_inv hs with ⟨r, -, t, -, -, hq⟩ | ⟨a, r, -, t, -, -, hq⟩ <;> (cases hq)
  | ifnonnull off =>
    change mNl false len pc l st h off = _ at hs
    rcases mNl_inv hs with ⟨r, -, t, -, -, hq⟩ | ⟨a, r, -, t, -, -, hq⟩ <;> (cases hq)
  | goto off =>
    change mJp len pc l st h true off = _ at hs
    obtain ⟨t, -, -, hq⟩ := mJp_inv hs
    cases hq
  | tableswitch d lo hi os =>
    change mSw pc l st h d lo hi os = _ at hs
    obtain ⟨x, r, o, -, -, t, -, hq⟩ := mSw_inv hs
    cases hq
  | iaload =>
    change mAl O X 0 len pc l st h = _ at hs
    obtain ⟨j, a, r, -, -, ⟨-, -, -, hq⟩ | ⟨v, -, hq⟩⟩ := mAl_inv hs <;> (cases hq)
  | baload =>
    change mAl O X 1 len pc l st h = _ at hs
    obtain ⟨j, a, r, -, -, ⟨-, -, -, hq⟩ | ⟨v, -, hq⟩⟩ := mAl_inv hs <;> (cases hq)
  | caload =>
    change mAl O X 2 len pc l st h = _ at hs
    obtain ⟨j, a, r, -, -, ⟨-, -, -, hq⟩ | ⟨v, -, hq⟩⟩ := mAl_inv hs <;> (cases hq)
  | aaload =>
    change mAl O X 3 len pc l st h = _ at hs
    obtain ⟨j, a, r, -, -, ⟨-, -, -, hq⟩ | ⟨v, -, hq⟩⟩ := mAl_inv hs <;> (cases hq)
  | iastore =>
    change mAs O 0 len pc l st h = _ at hs
    obtain ⟨v, j, a, r, h2, -, -, hv, hq⟩ := mAs_inv hs
    cases hq
  | bastore =>
    change mAs O 1 len pc l st h = _ at hs
    obtain ⟨v, j, a, r, h2, -, -, hv, hq⟩ := mAs_inv hs
    cases hq
  | castore =>
    change mAs O 2 len pc l st h = _ at hs
    obtain ⟨v, j, a, r, h2, -, -, hv, hq⟩ := mAs_inv hs
    cases hq
  | aastore =>
    change mAs O 3 len pc l st h = _ at hs
    obtain ⟨v, j, a, r, h2, -, -, hv, hq⟩ := mAs_inv hs
    cases hq
  | arraylength =>
    change mAn O X len pc l st h = _ at hs
    obtain ⟨a, r, -, -, ⟨-, hq⟩ | ⟨v, -, hq⟩⟩ := mAn_inv hs <;> (cases hq)
  | newarray at1 =>
    cases at1 with
    | int =>
      change mNa O 2 0 len pc l st h = _ at hs
      obtain ⟨n, r, z, -, hv, -, hq⟩ := mNa_inv hs
      cases hq
    | boolean =>
      change mNa O 2 1 len pc l st h = _ at hs
      obtain ⟨n, r, z, -, hv, -, hq⟩ := mNa_inv hs
      cases hq
    | char =>
      change mNa O 2 2 len pc l st h = _ at hs
      obtain ⟨n, r, z, -, hv, -, hq⟩ := mNa_inv hs
      cases hq
    | byte =>
      change mNa O 2 3 len pc l st h = _ at hs
      obtain ⟨n, r, z, -, hv, -, hq⟩ := mNa_inv hs
      cases hq
    | _ => cases hs
  | anewarray idx =>
    change (if mAt (mOwn y) idx then mNa O 3 4 len pc l st h else none) = _ at hs
    split at hs
    · obtain ⟨n, r, z, -, hv, -, hq⟩ := mNa_inv hs
      cases hq
    · cases hs
  | getfield idx =>
    change mGf O y len pc l st h idx = _ at hs
    obtain ⟨a, r, z, v, -, -, -, -, hq⟩ := mGf_inv hs
    cases hq
  | putfield idx =>
    change mPf O y len pc l st h idx = _ at hs
    obtain ⟨v, a, r, z, h2, -, -, -, hv, -, hq⟩ := mPf_inv hs
    cases hq
  | new idx =>
    change mNw O y len pc l st h idx = _ at hs
    obtain ⟨ci, z, -, hv, -, hq⟩ := mNw_inv hs
    cases hq
  | _ => first | (cases hs; done) | (simp [mIns] at hs; done)
theorem mRun_ty : ∀ (n : Nat) {y pc : Nat} {l : mL} {st : List Value} {h : σ} {r : Option Value × σ}, mRun O X n y pc l st h = some r → tyOK (mRt y) r.1 := by
  intro n
  induction n with
  | zero => intro y pc l st h r hr; simp [mRun] at hr
  | succ n ih =>
    intro y pc l st h r hr
    rw [mRun] at hr
    cases hs : mStep O X y pc (mM y pc l) st h with
    | none => rw [hs] at hr; cases hr
    | some q =>
      rw [hs] at hr
      rcases q with ⟨pc1, l1, st1, h1⟩ | z | ⟨y1, as, pc1, l1, st1, h1⟩
      · exact ih hr
      · cases hr
        unfold mStep at hs
        split at hs
        · exact mIns_retO hs
        · cases hs
      · dsimp only at hr
        cases hc : mRun O X n y1 0 (mEnt as (mMx y1)) [] h1 with
        | none => rw [hc] at hr; cases hr
        | some v => rw [hc] at hr; exact ih hr
theorem mV_ty {y pc : Nat} {l : mL} {st : List Value} {h : σ} {r : Option Value × σ} (hr : mV O X y pc l st h = some r) : tyOK (mRt y) r.1 := by
  obtain ⟨n, hn⟩ := (mV_iff O X y pc l st h r).mp hr
  exact mRun_ty n hn
end TY
def cI (r : Option (Option Value × Mem)) : Option (Int32 × Mem) := match r with
  | some (some (.int x), S) => some (x, S)
  | _ => none
def cJ (r : Option (Option Value × Mem)) : Option (Int64 × Mem) := match r with
  | some (some (.long x), S) => some (x, S)
  | _ => none
def cU (r : Option (Option Value × Mem)) : Option Mem := match r with
  | some (none, S) => some S
  | _ => none
def cA (r : Option (Option Value × Mem)) : Option (Option Nat × Mem) := match r with
  | some (some (.ref a), S) => some (some a, S)
  | some (some .null, S) => some (none, S)
  | _ => none
def oc {α : Type} (o : Option Nat) (A : α) (B : Nat → α) : α := match o with
  | none => A
  | some w => B w
def bI {γ : Type} (r : Option (Int32 × Mem)) (E : Int32 → Mem → Option γ) : Option γ := r.bind fun q => E q.1 q.2
def bJ {γ : Type} (r : Option (Int64 × Mem)) (E : Int64 → Mem → Option γ) : Option γ := r.bind fun q => E q.1 q.2
def bA {γ : Type} (r : Option (Option Nat × Mem)) (E : Option Nat → Mem → Option γ) : Option γ := r.bind fun q => E q.1 q.2
def bU {γ : Type} (r : Option Mem) (E : Mem → Option γ) : Option γ := r.bind E
theorem bI_s {γ : Type} {x : Int32} {S : Mem} {E : Int32 → Mem → Option γ} : bI (some (x, S)) E = E x S := rfl
theorem bJ_s {γ : Type} {x : Int64} {S : Mem} {E : Int64 → Mem → Option γ} : bJ (some (x, S)) E = E x S := rfl
theorem bA_s {γ : Type} {x : Option Nat} {S : Mem} {E : Option Nat → Mem → Option γ} : bA (some (x, S)) E = E x S := rfl
theorem bU_s {γ : Type} {S : Mem} {E : Mem → Option γ} : bU (some S) E = E S := rfl
def zb (x : Int32) : Bool := decide (x = 0) || decide (x = 1)
/-- what kind of answer: 0 int, boolean, char; 1 long; 2 a reference; 3 none -/
def mRk (rt : Option FieldType) : Nat := match rt with
  | none => 3
  | some .long => 1
  | some (.object _) => 2
  | some (.array _) => 2
  | some _ => 0
def cvOk (y idx y1 np rk : Nat) : Bool := decide (lk (mMt (mOwn y)) idx = some y1) && decide (mNp y1 = np) && !(mIni y1) && !(mSta y1) && mRm y y1 && decide (mRk (mRt y1) = rk)
def ciOk (y idx y1 np rk : Nat) : Bool := decide (lk (mMt (mOwn y)) idx = some y1) && decide (mNp y1 = np) && mSta y1 && mRm y y1 && decide (mRk (mRt y1) = rk)
def fOk (y idx ci k : Nat) : Bool := decide (lk (mFt (mOwn y)) idx = some (ci, k))
def pOk (y idx ci k : Nat) : Bool := decide (lk (mFt (mOwn y)) idx = some (ci, k)) && !(mFin ci k && !(mIni y && (mOwn y == ci)))
theorem SH_ns {a : Nat} {c : sC} (h : SH[a]? = some c) : a ≠ mSid := by
  have h1 := (List.getElem?_eq_some_iff.mp h).1
  have h2 : SH.length ≤ 1000 := by decide +kernel
  unfold mSid
  omega
theorem mStep_d {σ : Type} {O : mO σ} {X : mX} {y pc len : Nat} {l : mL} {st : List Value} {h : σ} {i : Instr} (hd : decode (mCd y) pc = .ok (i, len)) : mStep O X y pc l st h = mIns O X y pc len l st h i := by
  unfold mStep
  rw [hd]
theorem mM_n {y pc : Nat} {l : mL} (h : lk (mMsk y) pc = none) : mM y pc l = l := by
  unfold mM
  rw [h]
theorem mM_s {y pc : Nat} {l : mL} {bs : List Bool} (h : lk (mMsk y) pc = some bs) (hz : mZ l bs = l) : mM y pc l = l := by
  unfold mM
  rw [h]
  exact hz
theorem mZ_idem : ∀ (l : mL) (bs : List Bool), mZ (mZ l bs) bs = mZ l bs
  | [], bs => by cases bs <;> rfl
  | o :: r, [] => rfl
  | o :: r, b :: bs => by
    simp only [mZ, mZ_idem r bs]
    cases b <;> rfl
section VR
variable {γ : Type} {c : Option (Option Value × Mem) → Option γ} {X : mX} {y pc : Nat} {l : mL} {st : List Value} {S : Mem} {A B rhs : Option γ}
theorem V_msk {bs : List Bool} {l1 : mL} (h : lk (mMsk y) pc = some bs) (hz : mZ l bs = l1) (k : c (mV oS X y pc l1 st S) = rhs) : c (mV oS X y pc l st S) = rhs := by
  rw [← k, mV_unf, mV_unf oS X y pc l1]
  unfold mM
  rw [h]
  dsimp only
  rw [← hz, mZ_idem]
theorem V_go {pc1 : Nat} {l1 : mL} {st1 : List Value} {S1 : Mem} (hm : mM y pc l = l) (hs : mStep oS X y pc l st S = some (.inl (pc1, l1, st1, S1))) (k : c (mV oS X y pc1 l1 st1 S1) = rhs) : c (mV oS X y pc l st S) = rhs := by
  rw [mV_unf, hm, hs]
  exact k
theorem V_no (hm : mM y pc l = l) (hs : mStep oS X y pc l st S = none) (h0 : c none = none) : c (mV oS X y pc l st S) = none := by
  rw [mV_unf, hm, hs]
  exact h0
theorem V_iconst {n : Int} {v : Int32} (hd : decode (mCd y) pc = .ok (.iconst n, 1)) (hm : mM y pc l = l) (hv : Int32.ofInt n = v) (k : c (mV oS X y (pc + 1) l (.int v :: st) S) = rhs) : c (mV oS X y pc l st S) = rhs := V_go hm (by rw [mStep_d hd, ← hv]; rfl) k
theorem V_bipush {n : Int} {v : Int32} (hd : decode (mCd y) pc = .ok (.bipush n, 2)) (hm : mM y pc l = l) (hv : (Int8.ofInt n).toInt32 = v) (k : c (mV oS X y (pc + 2) l (.int v :: st) S) = rhs) : c (mV oS X y pc l st S) = rhs := V_go hm (by rw [mStep_d hd, ← hv]; rfl) k
theorem V_sipush {n : Int} {v : Int32} (hd : decode (mCd y) pc = .ok (.sipush n, 3)) (hm : mM y pc l = l) (hv : (Int16.ofInt n).toInt32 = v) (k : c (mV oS X y (pc + 3) l (.int v :: st) S) = rhs) : c (mV oS X y pc l st S) = rhs := V_go hm (by rw [mStep_d hd, ← hv]; rfl) k
theorem V_lconst {n : Fin 2} {v : Int64} (hd : decode (mCd y) pc = .ok (.lconst n, 1)) (hm : mM y pc l = l) (hv : Int64.ofNat (n : Nat) = v) (k : c (mV oS X y (pc + 1) l (.long v :: st) S) = rhs) : c (mV oS X y pc l st S) = rhs := V_go hm (by rw [mStep_d hd, ← hv]; rfl) k
theorem V_null (hd : decode (mCd y) pc = .ok (.aconst_null, 1)) (hm : mM y pc l = l) (k : c (mV oS X y (pc + 1) l (.null :: st) S) = rhs) : c (mV oS X y pc l st S) = rhs := V_go hm (by rw [mStep_d hd]; rfl) k
theorem V_ldc {i : Nat} {v : Int32} (hd : decode (mCd y) pc = .ok (.ldc i, 2)) (hm : mM y pc l = l) (hv : lk (mKt (mOwn y)) i = some (.inl v)) (k : c (mV oS X y (pc + 2) l (.int v :: st) S) = rhs) : c (mV oS X y pc l st S) = rhs := V_go hm (by rw [mStep_d hd]; show mCs 2 2 y pc l st S i false = _; unfold mCs; rw [hv]; rfl) k
theorem V_ldc_w {i : Nat} {v : Int32} (hd : decode (mCd y) pc = .ok (.ldc_w i, 3)) (hm : mM y pc l = l) (hv : lk (mKt (mOwn y)) i = some (.inl v)) (k : c (mV oS X y (pc + 3) l (.int v :: st) S) = rhs) : c (mV oS X y pc l st S) = rhs := V_go hm (by rw [mStep_d hd]; show mCs 3 3 y pc l st S i false = _; unfold mCs; rw [hv]; rfl) k
theorem V_ldc2_w {i : Nat} {v : Int64} (hd : decode (mCd y) pc = .ok (.ldc2_w i, 3)) (hm : mM y pc l = l) (hv : lk (mKt (mOwn y)) i = some (.inr v)) (k : c (mV oS X y (pc + 3) l (.long v :: st) S) = rhs) : c (mV oS X y pc l st S) = rhs := V_go hm (by rw [mStep_d hd]; show mCs 3 3 y pc l st S i true = _; unfold mCs; rw [hv]; rfl) k
theorem V_iload_n {j : Fin 4} {x : Int32} (hd : decode (mCd y) pc = .ok (.iload_n j, 1)) (hm : mM y pc l = l) (hl : l[(j : Nat)]? = some (some (.int x))) (k : c (mV oS X y (pc + 1) l (.int x :: st) S) = rhs) : c (mV oS X y pc l st S) = rhs := V_go hm (by rw [mStep_d hd]; show mLd 1 1 pc l j st S isI = _; unfold mLd; rw [hl]; rfl) k
theorem V_iload {j : Nat} {x : Int32} (hd : decode (mCd y) pc = .ok (.iload j, 2)) (hm : mM y pc l = l) (hl : l[j]? = some (some (.int x))) (k : c (mV oS X y (pc + 2) l (.int x :: st) S) = rhs) : c (mV oS X y pc l st S) = rhs := V_go hm (by rw [mStep_d hd]; show mLd 2 2 pc l j st S isI = _; unfold mLd; rw [hl]; rfl) k
theorem V_lload_n {j : Fin 4} {x : Int64} (hd : decode (mCd y) pc = .ok (.lload_n j, 1)) (hm : mM y pc l = l) (hl : l[(j : Nat)]? = some (some (.long x))) (k : c (mV oS X y (pc + 1) l (.long x :: st) S) = rhs) : c (mV oS X y pc l st S) = rhs := V_go hm (by rw [mStep_d hd]; show mLd 1 1 pc l j st S isL = _; unfold mLd; rw [hl]; rfl) k
theorem V_lload {j : Nat} {x : Int64} (hd : decode (mCd y) pc = .ok (.lload j, 2)) (hm : mM y pc l = l) (hl : l[j]? = some (some (.long x))) (k : c (mV oS X y (pc + 2) l (.long x :: st) S) = rhs) : c (mV oS X y pc l st S) = rhs := V_go hm (by rw [mStep_d hd]; show mLd 2 2 pc l j st S isL = _; unfold mLd; rw [hl]; rfl) k
theorem V_aload_n {j : Fin 4} {v : Value} (hd : decode (mCd y) pc = .ok (.aload_n j, 1)) (hm : mM y pc l = l) (hl : l[(j : Nat)]? = some (some v)) (hv : isA v = true) (k : c (mV oS X y (pc + 1) l (v :: st) S) = rhs) : c (mV oS X y pc l st S) = rhs := V_go hm (by rw [mStep_d hd]; show mLd 1 1 pc l j st S isA = _; unfold mLd; rw [hl]; dsimp only; rw [if_pos hv]; rfl) k
theorem V_aload {j : Nat} {v : Value} (hd : decode (mCd y) pc = .ok (.aload j, 2)) (hm : mM y pc l = l) (hl : l[j]? = some (some v)) (hv : isA v = true) (k : c (mV oS X y (pc + 2) l (v :: st) S) = rhs) : c (mV oS X y pc l st S) = rhs := V_go hm (by rw [mStep_d hd]; show mLd 2 2 pc l j st S isA = _; unfold mLd; rw [hl]; dsimp only; rw [if_pos hv]; rfl) k
theorem V_istore_n {j : Fin 4} {x : Int32} {l1 : mL} (hd : decode (mCd y) pc = .ok (.istore_n j, 1)) (hm : mM y pc l = l) (hi : (j : Nat) < l.length) (hl : mSt1 l (j : Nat) (.int x) = l1) (k : c (mV oS X y (pc + 1) l1 st S) = rhs) : c (mV oS X y pc l (.int x :: st) S) = rhs := V_go hm (by rw [mStep_d hd, ← hl]; show mStI 1 1 pc l j (.int x :: st) S = _; unfold mStI; dsimp only; rw [if_pos hi]; rfl) k
theorem V_istore {j : Nat} {x : Int32} {l1 : mL} (hd : decode (mCd y) pc = .ok (.istore j, 2)) (hm : mM y pc l = l) (hi : j < l.length) (hl : mSt1 l j (.int x) = l1) (k : c (mV oS X y (pc + 2) l1 st S) = rhs) : c (mV oS X y pc l (.int x :: st) S) = rhs := V_go hm (by rw [mStep_d hd, ← hl]; show mStI 2 2 pc l j (.int x :: st) S = _; unfold mStI; dsimp only; rw [if_pos hi]; rfl) k
theorem V_lstore_n {j : Fin 4} {x : Int64} {l1 : mL} (hd : decode (mCd y) pc = .ok (.lstore_n j, 1)) (hm : mM y pc l = l) (hi : (j : Nat) + 1 < l.length) (hl : mSt2 l (j : Nat) (.long x) = l1) (k : c (mV oS X y (pc + 1) l1 st S) = rhs) : c (mV oS X y pc l (.long x :: st) S) = rhs := V_go hm (by rw [mStep_d hd, ← hl]; show mStL 1 1 pc l j (.long x :: st) S = _; unfold mStL; dsimp only; rw [if_pos hi]; rfl) k
theorem V_lstore {j : Nat} {x : Int64} {l1 : mL} (hd : decode (mCd y) pc = .ok (.lstore j, 2)) (hm : mM y pc l = l) (hi : j + 1 < l.length) (hl : mSt2 l j (.long x) = l1) (k : c (mV oS X y (pc + 2) l1 st S) = rhs) : c (mV oS X y pc l (.long x :: st) S) = rhs := V_go hm (by rw [mStep_d hd, ← hl]; show mStL 2 2 pc l j (.long x :: st) S = _; unfold mStL; dsimp only; rw [if_pos hi]; rfl) k
theorem V_astore_n {j : Fin 4} {v : Value} {l1 : mL} (hd : decode (mCd y) pc = .ok (.astore_n j, 1)) (hm : mM y pc l = l) (hv : isA v = true) (hi : (j : Nat) < l.length) (hl : mSt1 l (j : Nat) v = l1) (k : c (mV oS X y (pc + 1) l1 st S) = rhs) : c (mV oS X y pc l (v :: st) S) = rhs := V_go hm (by rw [mStep_d hd, ← hl]; show mStA 1 1 pc l j (v :: st) S = _; cases v <;> first | (cases hv; done) | (unfold mStA; dsimp only; rw [if_pos hi]; rfl)) k
theorem V_astore {j : Nat} {v : Value} {l1 : mL} (hd : decode (mCd y) pc = .ok (.astore j, 2)) (hm : mM y pc l = l) (hv : isA v = true) (hi : j < l.length) (hl : mSt1 l j v = l1) (k : c (mV oS X y (pc + 2) l1 st S) = rhs) : c (mV oS X y pc l (v :: st) S) = rhs := V_go hm (by rw [mStep_d hd, ← hl]; show mStA 2 2 pc l j (v :: st) S = _; cases v <;> first | (cases hv; done) | (unfold mStA; dsimp only; rw [if_pos hi]; rfl)) k
theorem V_iinc {j : Nat} {n : Int} {x v : Int32} {l1 : mL} (hd : decode (mCd y) pc = .ok (.iinc j n, 3)) (hm : mM y pc l = l) (hl : l[j]? = some (some (.int x))) (hv : Int32.ofInt n = v) (h1 : mSt1 l j (.int (x + v)) = l1) (k : c (mV oS X y (pc + 3) l1 st S) = rhs) : c (mV oS X y pc l st S) = rhs := V_go hm (by rw [mStep_d hd, ← h1, ← hv]; show (match l[j]? with | some (some (.int x)) => mGo 3 3 pc (mSt1 l j (.int (x + Int32.ofInt n))) st S | _ => none) = _; rw [hl]; rfl) k
theorem V_iadd {x z : Int32} (hd : decode (mCd y) pc = .ok (.iadd, 1)) (hm : mM y pc l = l) (k : c (mV oS X y (pc + 1) l (.int (x + z) :: st) S) = rhs) : c (mV oS X y pc l (.int z :: .int x :: st) S) = rhs := V_go hm (by rw [mStep_d hd]; rfl) k
theorem V_isub {x z : Int32} (hd : decode (mCd y) pc = .ok (.isub, 1)) (hm : mM y pc l = l) (k : c (mV oS X y (pc + 1) l (.int (x - z) :: st) S) = rhs) : c (mV oS X y pc l (.int z :: .int x :: st) S) = rhs := V_go hm (by rw [mStep_d hd]; rfl) k
theorem V_imul {x z : Int32} (hd : decode (mCd y) pc = .ok (.imul, 1)) (hm : mM y pc l = l) (k : c (mV oS X y (pc + 1) l (.int (x * z) :: st) S) = rhs) : c (mV oS X y pc l (.int z :: .int x :: st) S) = rhs := V_go hm (by rw [mStep_d hd]; rfl) k
theorem V_iand {x z : Int32} (hd : decode (mCd y) pc = .ok (.iand, 1)) (hm : mM y pc l = l) (k : c (mV oS X y (pc + 1) l (.int (x &&& z) :: st) S) = rhs) : c (mV oS X y pc l (.int z :: .int x :: st) S) = rhs := V_go hm (by rw [mStep_d hd]; rfl) k
theorem V_ior {x z : Int32} (hd : decode (mCd y) pc = .ok (.ior, 1)) (hm : mM y pc l = l) (k : c (mV oS X y (pc + 1) l (.int (x ||| z) :: st) S) = rhs) : c (mV oS X y pc l (.int z :: .int x :: st) S) = rhs := V_go hm (by rw [mStep_d hd]; rfl) k
theorem V_ixor {x z : Int32} (hd : decode (mCd y) pc = .ok (.ixor, 1)) (hm : mM y pc l = l) (k : c (mV oS X y (pc + 1) l (.int (x ^^^ z) :: st) S) = rhs) : c (mV oS X y pc l (.int z :: .int x :: st) S) = rhs := V_go hm (by rw [mStep_d hd]; rfl) k
theorem V_ishl {x z : Int32} (hd : decode (mCd y) pc = .ok (.ishl, 1)) (hm : mM y pc l = l) (k : c (mV oS X y (pc + 1) l (.int (x <<< (z &&& 31)) :: st) S) = rhs) : c (mV oS X y pc l (.int z :: .int x :: st) S) = rhs := V_go hm (by rw [mStep_d hd]; rfl) k
theorem V_ishr {x z : Int32} (hd : decode (mCd y) pc = .ok (.ishr, 1)) (hm : mM y pc l = l) (k : c (mV oS X y (pc + 1) l (.int (x >>> (z &&& 31)) :: st) S) = rhs) : c (mV oS X y pc l (.int z :: .int x :: st) S) = rhs := V_go hm (by rw [mStep_d hd]; rfl) k
theorem V_iushr {x z : Int32} (hd : decode (mCd y) pc = .ok (.iushr, 1)) (hm : mM y pc l = l) (k : c (mV oS X y (pc + 1) l (.int ((x.toUInt32 >>> (z.toUInt32 &&& Int32.toUInt32 31)).toInt32) :: st) S) = rhs) : c (mV oS X y pc l (.int z :: .int x :: st) S) = rhs := V_go hm (by rw [mStep_d hd]; rfl) k
theorem V_idiv {x z : Int32} (hd : decode (mCd y) pc = .ok (.idiv, 1)) (hm : mM y pc l = l) (h0 : c none = none) (k : ¬ z = 0 → c (mV oS X y (pc + 1) l (.int (x / z) :: st) S) = rhs) : c (mV oS X y pc l (.int z :: .int x :: st) S) = if z = 0 then none else rhs := by
  by_cases hz : z = 0
  · rw [if_pos hz]; exact V_no hm (by rw [mStep_d hd]; show mIZ 1 pc l (.int z :: .int x :: st) S (fun x z => x / z) = _; unfold mIZ; dsimp only; rw [if_pos hz]) h0
  · rw [if_neg hz]; exact V_go hm (by rw [mStep_d hd]; show mIZ 1 pc l (.int z :: .int x :: st) S (fun x z => x / z) = _; unfold mIZ; dsimp only; rw [if_neg hz]; rfl) (k hz)
theorem V_idivL {x z : Int32} (hd : decode (mCd y) pc = .ok (.idiv, 1)) (hm : mM y pc l = l) (hz : ¬ z = 0) (k : c (mV oS X y (pc + 1) l (.int (x / z) :: st) S) = rhs) : c (mV oS X y pc l (.int z :: .int x :: st) S) = rhs := V_go hm (by rw [mStep_d hd]; show mIZ 1 pc l (.int z :: .int x :: st) S (fun x z => x / z) = _; unfold mIZ; dsimp only; rw [if_neg hz]; rfl) k
theorem V_irem {x z : Int32} (hd : decode (mCd y) pc = .ok (.irem, 1)) (hm : mM y pc l = l) (h0 : c none = none) (k : ¬ z = 0 → c (mV oS X y (pc + 1) l (.int (x - x / z * z) :: st) S) = rhs) : c (mV oS X y pc l (.int z :: .int x :: st) S) = if z = 0 then none else rhs := by
  by_cases hz : z = 0
  · rw [if_pos hz]; exact V_no hm (by rw [mStep_d hd]; show mIZ 1 pc l (.int z :: .int x :: st) S (fun x z => x - x / z * z) = _; unfold mIZ; dsimp only; rw [if_pos hz]) h0
  · rw [if_neg hz]; exact V_go hm (by rw [mStep_d hd]; show mIZ 1 pc l (.int z :: .int x :: st) S (fun x z => x - x / z * z) = _; unfold mIZ; dsimp only; rw [if_neg hz]; rfl) (k hz)
theorem V_iremL {x z : Int32} (hd : decode (mCd y) pc = .ok (.irem, 1)) (hm : mM y pc l = l) (hz : ¬ z = 0) (k : c (mV oS X y (pc + 1) l (.int (x - x / z * z) :: st) S) = rhs) : c (mV oS X y pc l (.int z :: .int x :: st) S) = rhs := V_go hm (by rw [mStep_d hd]; show mIZ 1 pc l (.int z :: .int x :: st) S (fun x z => x - x / z * z) = _; unfold mIZ; dsimp only; rw [if_neg hz]; rfl) k
theorem V_ladd {x z : Int64} (hd : decode (mCd y) pc = .ok (.ladd, 1)) (hm : mM y pc l = l) (k : c (mV oS X y (pc + 1) l (.long (x + z) :: st) S) = rhs) : c (mV oS X y pc l (.long z :: .long x :: st) S) = rhs := V_go hm (by rw [mStep_d hd]; rfl) k
theorem V_lsub {x z : Int64} (hd : decode (mCd y) pc = .ok (.lsub, 1)) (hm : mM y pc l = l) (k : c (mV oS X y (pc + 1) l (.long (x - z) :: st) S) = rhs) : c (mV oS X y pc l (.long z :: .long x :: st) S) = rhs := V_go hm (by rw [mStep_d hd]; rfl) k
theorem V_lmul {x z : Int64} (hd : decode (mCd y) pc = .ok (.lmul, 1)) (hm : mM y pc l = l) (k : c (mV oS X y (pc + 1) l (.long (x * z) :: st) S) = rhs) : c (mV oS X y pc l (.long z :: .long x :: st) S) = rhs := V_go hm (by rw [mStep_d hd]; rfl) k
theorem V_land {x z : Int64} (hd : decode (mCd y) pc = .ok (.land, 1)) (hm : mM y pc l = l) (k : c (mV oS X y (pc + 1) l (.long (x &&& z) :: st) S) = rhs) : c (mV oS X y pc l (.long z :: .long x :: st) S) = rhs := V_go hm (by rw [mStep_d hd]; rfl) k
theorem V_lor {x z : Int64} (hd : decode (mCd y) pc = .ok (.lor, 1)) (hm : mM y pc l = l) (k : c (mV oS X y (pc + 1) l (.long (x ||| z) :: st) S) = rhs) : c (mV oS X y pc l (.long z :: .long x :: st) S) = rhs := V_go hm (by rw [mStep_d hd]; rfl) k
theorem V_lcmp {x z : Int64} (hd : decode (mCd y) pc = .ok (.lcmp, 1)) (hm : mM y pc l = l) (k : c (mV oS X y (pc + 1) l (.int (lg_cmp x z) :: st) S) = rhs) : c (mV oS X y pc l (.long z :: .long x :: st) S) = rhs := V_go hm (by rw [mStep_d hd]; rfl) k
theorem V_ldiv {x z : Int64} (hd : decode (mCd y) pc = .ok (.ldiv, 1)) (hm : mM y pc l = l) (h0 : c none = none) (k : ¬ z = 0 → c (mV oS X y (pc + 1) l (.long (x / z) :: st) S) = rhs) : c (mV oS X y pc l (.long z :: .long x :: st) S) = if z = 0 then none else rhs := by
  by_cases hz : z = 0
  · rw [if_pos hz]; exact V_no hm (by rw [mStep_d hd]; show mLZ 1 pc l (.long z :: .long x :: st) S (fun x z => .long (x / z)) = _; unfold mLZ; dsimp only; rw [if_pos hz]) h0
  · rw [if_neg hz]; exact V_go hm (by rw [mStep_d hd]; show mLZ 1 pc l (.long z :: .long x :: st) S (fun x z => .long (x / z)) = _; unfold mLZ; dsimp only; rw [if_neg hz]; rfl) (k hz)
theorem V_ldivL {x z : Int64} (hd : decode (mCd y) pc = .ok (.ldiv, 1)) (hm : mM y pc l = l) (hz : ¬ z = 0) (k : c (mV oS X y (pc + 1) l (.long (x / z) :: st) S) = rhs) : c (mV oS X y pc l (.long z :: .long x :: st) S) = rhs := V_go hm (by rw [mStep_d hd]; show mLZ 1 pc l (.long z :: .long x :: st) S (fun x z => .long (x / z)) = _; unfold mLZ; dsimp only; rw [if_neg hz]; rfl) k
theorem V_lrem {x z : Int64} (hd : decode (mCd y) pc = .ok (.lrem, 1)) (hm : mM y pc l = l) (h0 : c none = none) (k : ¬ z = 0 → c (mV oS X y (pc + 1) l (.long (x - x / z * z) :: st) S) = rhs) : c (mV oS X y pc l (.long z :: .long x :: st) S) = if z = 0 then none else rhs := by
  by_cases hz : z = 0
  · rw [if_pos hz]; exact V_no hm (by rw [mStep_d hd]; show mLZ 1 pc l (.long z :: .long x :: st) S (fun x z => .long (x - x / z * z)) = _; unfold mLZ; dsimp only; rw [if_pos hz]) h0
  · rw [if_neg hz]; exact V_go hm (by rw [mStep_d hd]; show mLZ 1 pc l (.long z :: .long x :: st) S (fun x z => .long (x - x / z * z)) = _; unfold mLZ; dsimp only; rw [if_neg hz]; rfl) (k hz)
theorem V_lremL {x z : Int64} (hd : decode (mCd y) pc = .ok (.lrem, 1)) (hm : mM y pc l = l) (hz : ¬ z = 0) (k : c (mV oS X y (pc + 1) l (.long (x - x / z * z) :: st) S) = rhs) : c (mV oS X y pc l (.long z :: .long x :: st) S) = rhs := V_go hm (by rw [mStep_d hd]; show mLZ 1 pc l (.long z :: .long x :: st) S (fun x z => .long (x - x / z * z)) = _; unfold mLZ; dsimp only; rw [if_neg hz]; rfl) k
theorem V_lshl {x : Int64} {z : Int32} (hd : decode (mCd y) pc = .ok (.lshl, 1)) (hm : mM y pc l = l) (k : c (mV oS X y (pc + 1) l (.long (x <<< (z.toInt64 &&& 63)) :: st) S) = rhs) : c (mV oS X y pc l (.int z :: .long x :: st) S) = rhs := V_go hm (by rw [mStep_d hd]; rfl) k
theorem V_lshr {x : Int64} {z : Int32} (hd : decode (mCd y) pc = .ok (.lshr, 1)) (hm : mM y pc l = l) (k : c (mV oS X y (pc + 1) l (.long (x >>> (z.toInt64 &&& 63)) :: st) S) = rhs) : c (mV oS X y pc l (.int z :: .long x :: st) S) = rhs := V_go hm (by rw [mStep_d hd]; rfl) k
theorem V_lushr {x : Int64} {z : Int32} (hd : decode (mCd y) pc = .ok (.lushr, 1)) (hm : mM y pc l = l) (k : c (mV oS X y (pc + 1) l (.long ((x.toUInt64 >>> (z.toInt64.toUInt64 &&& Int64.toUInt64 63)).toInt64) :: st) S) = rhs) : c (mV oS X y pc l (.int z :: .long x :: st) S) = rhs := V_go hm (by rw [mStep_d hd]; rfl) k
theorem V_i2l {x : Int32} (hd : decode (mCd y) pc = .ok (.i2l, 1)) (hm : mM y pc l = l) (k : c (mV oS X y (pc + 1) l (.long x.toInt64 :: st) S) = rhs) : c (mV oS X y pc l (.int x :: st) S) = rhs := V_go hm (by rw [mStep_d hd]; rfl) k
theorem V_i2b {x : Int32} (hd : decode (mCd y) pc = .ok (.i2b, 1)) (hm : mM y pc l = l) (k : c (mV oS X y (pc + 1) l (.int x.toInt8.toInt32 :: st) S) = rhs) : c (mV oS X y pc l (.int x :: st) S) = rhs := V_go hm (by rw [mStep_d hd]; rfl) k
theorem V_i2c {x : Int32} (hd : decode (mCd y) pc = .ok (.i2c, 1)) (hm : mM y pc l = l) (k : c (mV oS X y (pc + 1) l (.int (x.toUInt32 % 65536).toInt32 :: st) S) = rhs) : c (mV oS X y pc l (.int x :: st) S) = rhs := V_go hm (by rw [mStep_d hd]; rfl) k
theorem V_ineg {x : Int32} (hd : decode (mCd y) pc = .ok (.ineg, 1)) (hm : mM y pc l = l) (k : c (mV oS X y (pc + 1) l (.int (-x) :: st) S) = rhs) : c (mV oS X y pc l (.int x :: st) S) = rhs := V_go hm (by rw [mStep_d hd]; rfl) k
theorem V_l2i {x : Int64} (hd : decode (mCd y) pc = .ok (.l2i, 1)) (hm : mM y pc l = l) (k : c (mV oS X y (pc + 1) l (.int x.toInt32 :: st) S) = rhs) : c (mV oS X y pc l (.long x :: st) S) = rhs := V_go hm (by rw [mStep_d hd]; rfl) k
theorem V_dup {v : Value} (hd : decode (mCd y) pc = .ok (.dup, 1)) (hm : mM y pc l = l) (hv : v.category = 1) (k : c (mV oS X y (pc + 1) l (v :: v :: st) S) = rhs) : c (mV oS X y pc l (v :: st) S) = rhs := V_go hm (by rw [mStep_d hd]; simp [mIns, hv, mGo]) k
theorem V_dup2 {v w : Value} (hd : decode (mCd y) pc = .ok (.dup2, 1)) (hm : mM y pc l = l) (hv : v.category = 1) (hw : w.category = 1) (k : c (mV oS X y (pc + 1) l (v :: w :: v :: w :: st) S) = rhs) : c (mV oS X y pc l (v :: w :: st) S) = rhs := V_go hm (by rw [mStep_d hd]; simp [mIns, hv, hw, mGo]) k
theorem V_pop {v : Value} (hd : decode (mCd y) pc = .ok (.pop, 1)) (hm : mM y pc l = l) (hv : v.category = 1) (k : c (mV oS X y (pc + 1) l st S) = rhs) : c (mV oS X y pc l (v :: st) S) = rhs := V_go hm (by rw [mStep_d hd]; simp [mIns, hv, mGo]) k
theorem V_goto {off : Int} {t : Nat} (hd : decode (mCd y) pc = .ok (.goto off, 3)) (hm : mM y pc l = l) (ht : mTg pc off = some t) (k : c (mV oS X y t l st S) = rhs) : c (mV oS X y pc l st S) = rhs := V_go hm (by rw [mStep_d hd]; show mJp 3 pc l st S true off = _; unfold mJp; rw [ht]; rfl) k
theorem V_if_eq {x : Int32} {off : Int} {t : Nat} (hd : decode (mCd y) pc = .ok (.ifCond .eq off, 3)) (hm : mM y pc l = l) (ht : mTg pc off = some t) (k1 : x = 0 → c (mV oS X y t l st S) = A) (k2 : ¬ x = 0 → c (mV oS X y (pc + 3) l st S) = B) : c (mV oS X y pc l (.int x :: st) S) = if x = 0 then A else B := by
  by_cases hp : x = 0
  · rw [if_pos hp]
    exact V_go hm (by rw [mStep_d hd]; show mJp 3 pc l st S (mCb .eq x 0) off = _; unfold mJp; rw [ht, show mCb .eq x 0 = true from decide_eq_true hp]; rfl) (k1 hp)
  · rw [if_neg hp]
    exact V_go hm (by rw [mStep_d hd]; show mJp 3 pc l st S (mCb .eq x 0) off = _; unfold mJp; rw [ht, show mCb .eq x 0 = false from decide_eq_false hp]; rfl) (k2 hp)
theorem V_icmp_eq {x z : Int32} {off : Int} {t : Nat} (hd : decode (mCd y) pc = .ok (.if_icmp .eq off, 3)) (hm : mM y pc l = l) (ht : mTg pc off = some t) (k1 : x = z → c (mV oS X y t l st S) = A) (k2 : ¬ x = z → c (mV oS X y (pc + 3) l st S) = B) : c (mV oS X y pc l (.int z :: .int x :: st) S) = if x = z then A else B := by
  by_cases hp : x = z
  · rw [if_pos hp]
    exact V_go hm (by rw [mStep_d hd]; show mJp 3 pc l st S (mCb .eq x z) off = _; unfold mJp; rw [ht, show mCb .eq x z = true from decide_eq_true hp]; rfl) (k1 hp)
  · rw [if_neg hp]
    exact V_go hm (by rw [mStep_d hd]; show mJp 3 pc l st S (mCb .eq x z) off = _; unfold mJp; rw [ht, show mCb .eq x z = false from decide_eq_false hp]; rfl) (k2 hp)
theorem V_if_ne {x : Int32} {off : Int} {t : Nat} (hd : decode (mCd y) pc = .ok (.ifCond .ne off, 3)) (hm : mM y pc l = l) (ht : mTg pc off = some t) (k1 : x = 0 → c (mV oS X y (pc + 3) l st S) = A) (k2 : ¬ x = 0 → c (mV oS X y t l st S) = B) : c (mV oS X y pc l (.int x :: st) S) = if x = 0 then A else B := by
  by_cases hp : x = 0
  · rw [if_pos hp]
    exact V_go hm (by rw [mStep_d hd]; show mJp 3 pc l st S (mCb .ne x 0) off = _; unfold mJp; rw [ht, show mCb .ne x 0 = false from decide_eq_false (fun h => h hp)]; rfl) (k1 hp)
  · rw [if_neg hp]
    exact V_go hm (by rw [mStep_d hd]; show mJp 3 pc l st S (mCb .ne x 0) off = _; unfold mJp; rw [ht, show mCb .ne x 0 = true from decide_eq_true hp]; rfl) (k2 hp)
theorem V_icmp_ne {x z : Int32} {off : Int} {t : Nat} (hd : decode (mCd y) pc = .ok (.if_icmp .ne off, 3)) (hm : mM y pc l = l) (ht : mTg pc off = some t) (k1 : x = z → c (mV oS X y (pc + 3) l st S) = A) (k2 : ¬ x = z → c (mV oS X y t l st S) = B) : c (mV oS X y pc l (.int z :: .int x :: st) S) = if x = z then A else B := by
  by_cases hp : x = z
  · rw [if_pos hp]
    exact V_go hm (by rw [mStep_d hd]; show mJp 3 pc l st S (mCb .ne x z) off = _; unfold mJp; rw [ht, show mCb .ne x z = false from decide_eq_false (fun h => h hp)]; rfl) (k1 hp)
  · rw [if_neg hp]
    exact V_go hm (by rw [mStep_d hd]; show mJp 3 pc l st S (mCb .ne x z) off = _; unfold mJp; rw [ht, show mCb .ne x z = true from decide_eq_true hp]; rfl) (k2 hp)
theorem V_if_lt {x : Int32} {off : Int} {t : Nat} (hd : decode (mCd y) pc = .ok (.ifCond .lt off, 3)) (hm : mM y pc l = l) (ht : mTg pc off = some t) (k1 : x < 0 → c (mV oS X y t l st S) = A) (k2 : ¬ x < 0 → c (mV oS X y (pc + 3) l st S) = B) : c (mV oS X y pc l (.int x :: st) S) = if x < 0 then A else B := by
  by_cases hp : x < 0
  · rw [if_pos hp]
    exact V_go hm (by rw [mStep_d hd]; show mJp 3 pc l st S (mCb .lt x 0) off = _; unfold mJp; rw [ht, show mCb .lt x 0 = true from decide_eq_true hp]; rfl) (k1 hp)
  · rw [if_neg hp]
    exact V_go hm (by rw [mStep_d hd]; show mJp 3 pc l st S (mCb .lt x 0) off = _; unfold mJp; rw [ht, show mCb .lt x 0 = false from decide_eq_false hp]; rfl) (k2 hp)
theorem V_icmp_lt {x z : Int32} {off : Int} {t : Nat} (hd : decode (mCd y) pc = .ok (.if_icmp .lt off, 3)) (hm : mM y pc l = l) (ht : mTg pc off = some t) (k1 : x < z → c (mV oS X y t l st S) = A) (k2 : ¬ x < z → c (mV oS X y (pc + 3) l st S) = B) : c (mV oS X y pc l (.int z :: .int x :: st) S) = if x < z then A else B := by
  by_cases hp : x < z
  · rw [if_pos hp]
    exact V_go hm (by rw [mStep_d hd]; show mJp 3 pc l st S (mCb .lt x z) off = _; unfold mJp; rw [ht, show mCb .lt x z = true from decide_eq_true hp]; rfl) (k1 hp)
  · rw [if_neg hp]
    exact V_go hm (by rw [mStep_d hd]; show mJp 3 pc l st S (mCb .lt x z) off = _; unfold mJp; rw [ht, show mCb .lt x z = false from decide_eq_false hp]; rfl) (k2 hp)
theorem V_if_ge {x : Int32} {off : Int} {t : Nat} (hd : decode (mCd y) pc = .ok (.ifCond .ge off, 3)) (hm : mM y pc l = l) (ht : mTg pc off = some t) (k1 : 0 ≤ x → c (mV oS X y t l st S) = A) (k2 : ¬ 0 ≤ x → c (mV oS X y (pc + 3) l st S) = B) : c (mV oS X y pc l (.int x :: st) S) = if 0 ≤ x then A else B := by
  by_cases hp : 0 ≤ x
  · rw [if_pos hp]
    exact V_go hm (by rw [mStep_d hd]; show mJp 3 pc l st S (mCb .ge x 0) off = _; unfold mJp; rw [ht, show mCb .ge x 0 = true from decide_eq_true hp]; rfl) (k1 hp)
  · rw [if_neg hp]
    exact V_go hm (by rw [mStep_d hd]; show mJp 3 pc l st S (mCb .ge x 0) off = _; unfold mJp; rw [ht, show mCb .ge x 0 = false from decide_eq_false hp]; rfl) (k2 hp)
theorem V_icmp_ge {x z : Int32} {off : Int} {t : Nat} (hd : decode (mCd y) pc = .ok (.if_icmp .ge off, 3)) (hm : mM y pc l = l) (ht : mTg pc off = some t) (k1 : z ≤ x → c (mV oS X y t l st S) = A) (k2 : ¬ z ≤ x → c (mV oS X y (pc + 3) l st S) = B) : c (mV oS X y pc l (.int z :: .int x :: st) S) = if z ≤ x then A else B := by
  by_cases hp : z ≤ x
  · rw [if_pos hp]
    exact V_go hm (by rw [mStep_d hd]; show mJp 3 pc l st S (mCb .ge x z) off = _; unfold mJp; rw [ht, show mCb .ge x z = true from decide_eq_true hp]; rfl) (k1 hp)
  · rw [if_neg hp]
    exact V_go hm (by rw [mStep_d hd]; show mJp 3 pc l st S (mCb .ge x z) off = _; unfold mJp; rw [ht, show mCb .ge x z = false from decide_eq_false hp]; rfl) (k2 hp)
theorem V_if_gt {x : Int32} {off : Int} {t : Nat} (hd : decode (mCd y) pc = .ok (.ifCond .gt off, 3)) (hm : mM y pc l = l) (ht : mTg pc off = some t) (k1 : 0 < x → c (mV oS X y t l st S) = A) (k2 : ¬ 0 < x → c (mV oS X y (pc + 3) l st S) = B) : c (mV oS X y pc l (.int x :: st) S) = if 0 < x then A else B := by
  by_cases hp : 0 < x
  · rw [if_pos hp]
    exact V_go hm (by rw [mStep_d hd]; show mJp 3 pc l st S (mCb .gt x 0) off = _; unfold mJp; rw [ht, show mCb .gt x 0 = true from decide_eq_true hp]; rfl) (k1 hp)
  · rw [if_neg hp]
    exact V_go hm (by rw [mStep_d hd]; show mJp 3 pc l st S (mCb .gt x 0) off = _; unfold mJp; rw [ht, show mCb .gt x 0 = false from decide_eq_false hp]; rfl) (k2 hp)
theorem V_icmp_gt {x z : Int32} {off : Int} {t : Nat} (hd : decode (mCd y) pc = .ok (.if_icmp .gt off, 3)) (hm : mM y pc l = l) (ht : mTg pc off = some t) (k1 : z < x → c (mV oS X y t l st S) = A) (k2 : ¬ z < x → c (mV oS X y (pc + 3) l st S) = B) : c (mV oS X y pc l (.int z :: .int x :: st) S) = if z < x then A else B := by
  by_cases hp : z < x
  · rw [if_pos hp]
    exact V_go hm (by rw [mStep_d hd]; show mJp 3 pc l st S (mCb .gt x z) off = _; unfold mJp; rw [ht, show mCb .gt x z = true from decide_eq_true hp]; rfl) (k1 hp)
  · rw [if_neg hp]
    exact V_go hm (by rw [mStep_d hd]; show mJp 3 pc l st S (mCb .gt x z) off = _; unfold mJp; rw [ht, show mCb .gt x z = false from decide_eq_false hp]; rfl) (k2 hp)
theorem V_if_le {x : Int32} {off : Int} {t : Nat} (hd : decode (mCd y) pc = .ok (.ifCond .le off, 3)) (hm : mM y pc l = l) (ht : mTg pc off = some t) (k1 : x ≤ 0 → c (mV oS X y t l st S) = A) (k2 : ¬ x ≤ 0 → c (mV oS X y (pc + 3) l st S) = B) : c (mV oS X y pc l (.int x :: st) S) = if x ≤ 0 then A else B := by
  by_cases hp : x ≤ 0
  · rw [if_pos hp]
    exact V_go hm (by rw [mStep_d hd]; show mJp 3 pc l st S (mCb .le x 0) off = _; unfold mJp; rw [ht, show mCb .le x 0 = true from decide_eq_true hp]; rfl) (k1 hp)
  · rw [if_neg hp]
    exact V_go hm (by rw [mStep_d hd]; show mJp 3 pc l st S (mCb .le x 0) off = _; unfold mJp; rw [ht, show mCb .le x 0 = false from decide_eq_false hp]; rfl) (k2 hp)
theorem V_icmp_le {x z : Int32} {off : Int} {t : Nat} (hd : decode (mCd y) pc = .ok (.if_icmp .le off, 3)) (hm : mM y pc l = l) (ht : mTg pc off = some t) (k1 : x ≤ z → c (mV oS X y t l st S) = A) (k2 : ¬ x ≤ z → c (mV oS X y (pc + 3) l st S) = B) : c (mV oS X y pc l (.int z :: .int x :: st) S) = if x ≤ z then A else B := by
  by_cases hp : x ≤ z
  · rw [if_pos hp]
    exact V_go hm (by rw [mStep_d hd]; show mJp 3 pc l st S (mCb .le x z) off = _; unfold mJp; rw [ht, show mCb .le x z = true from decide_eq_true hp]; rfl) (k1 hp)
  · rw [if_neg hp]
    exact V_go hm (by rw [mStep_d hd]; show mJp 3 pc l st S (mCb .le x z) off = _; unfold mJp; rw [ht, show mCb .le x z = false from decide_eq_false hp]; rfl) (k2 hp)
theorem V_ifnullN {off : Int} {t : Nat} (hd : decode (mCd y) pc = .ok (.ifnull off, 3)) (hm : mM y pc l = l) (ht : mTg pc off = some t) (k : c (mV oS X y t l st S) = rhs) : c (mV oS X y pc l (.null :: st) S) = rhs := V_go hm (by rw [mStep_d hd]; show mJp 3 pc l st S true off = _; unfold mJp; rw [ht]; rfl) k
theorem V_ifnullR {a : Nat} {off : Int} {t : Nat} (hd : decode (mCd y) pc = .ok (.ifnull off, 3)) (hm : mM y pc l = l) (ht : mTg pc off = some t) (k : c (mV oS X y (pc + 3) l st S) = rhs) : c (mV oS X y pc l (.ref a :: st) S) = rhs := V_go hm (by rw [mStep_d hd]; show mJp 3 pc l st S (!true) off = _; unfold mJp; rw [ht]; rfl) k
theorem V_ifnonnullN {off : Int} {t : Nat} (hd : decode (mCd y) pc = .ok (.ifnonnull off, 3)) (hm : mM y pc l = l) (ht : mTg pc off = some t) (k : c (mV oS X y (pc + 3) l st S) = rhs) : c (mV oS X y pc l (.null :: st) S) = rhs := V_go hm (by rw [mStep_d hd]; show mJp 3 pc l st S false off = _; unfold mJp; rw [ht]; rfl) k
theorem V_ifnonnullR {a : Nat} {off : Int} {t : Nat} (hd : decode (mCd y) pc = .ok (.ifnonnull off, 3)) (hm : mM y pc l = l) (ht : mTg pc off = some t) (k : c (mV oS X y t l st S) = rhs) : c (mV oS X y pc l (.ref a :: st) S) = rhs := V_go hm (by rw [mStep_d hd]; show mJp 3 pc l st S (!false) off = _; unfold mJp; rw [ht]; rfl) k
theorem V_sw {d lo hi : Int} {os : Array Int} {len t : Nat} {x : Int32} {o : Int} (hd : decode (mCd y) pc = .ok (.tableswitch d lo hi os, len)) (hm : mM y pc l = l) (hx : mSo d lo hi os x = some o) (ht : mTg pc o = some t) (k : c (mV oS X y t l st S) = rhs) : c (mV oS X y pc l (.int x :: st) S) = rhs := V_go hm (by rw [mStep_d hd]; show mSw pc l (.int x :: st) S d lo hi os = _; unfold mSw; dsimp only; rw [hx]; dsimp only; rw [ht]) k
theorem V_ite {p : Prop} [Decidable p] {L : Option γ} (k1 : p → L = A) (k2 : ¬ p → L = B) : L = if p then A else B := by
  by_cases h : p
  · rw [if_pos h]; exact k1 h
  · rw [if_neg h]; exact k2 h
theorem sw_o {x : Int32} {n : Nat} {d : Int} {os : Array Int} (hn : n < 1000) (h : ∀ k, k < n → x ≠ nI k) : mSo d 0 ((n : Int) - 1) os x = some d := by
  unfold mSo
  rw [if_pos]
  by_cases h1 : x.toInt < 0
  · exact Or.inl h1
  · refine Or.inr ?_
    have hx : ¬ x < 0 := by
      rw [Int32.lt_iff_toInt_lt]
      simpa using h1
    obtain ⟨j, hj, rfl⟩ := nI_of hx
    have : ¬ j < n := fun q => h j q rfl
    rw [nI_toInt hj]
    omega
theorem V_iaload {n a : Nat} {i : Int32} (hd : decode (mCd y) pc = .ok (.iaload, 1)) (hm : mM y pc l = l) (ha : SH[a]? = some (.inr (0, n, none))) (h0 : c none = none) (k : inb i n = true → c (mV oS X y (pc + 1) l (.int (S.1 a i.toNatClampNeg) :: st) S) = rhs) : c (mV oS X y pc l (.int i :: .ref a :: st) S) = if inb i n = true then rhs else none := by
  have e : mStep oS X y pc l (.int i :: .ref a :: st) S = if inb i n = true then some (.inl (pc + 1, l, .int (S.1 a i.toNatClampNeg) :: st, S)) else none := by
    rw [mStep_d hd]
    show mAl oS X 0 1 pc l (.int i :: .ref a :: st) S = _
    unfold mAl
    dsimp only
    rw [if_neg (SH_ns ha), show oS.ld S a 0 i = sLd S a 0 i from rfl]
    unfold sLd
    rw [ha]
    dsimp only
    by_cases hi : inb i n = true
    · rw [if_pos ⟨hi, rfl⟩, if_pos hi]; rfl
    · rw [if_neg (fun z => hi z.1), if_neg hi]
  by_cases hi : inb i n = true
  · rw [if_pos hi] at e ⊢; exact V_go hm e (k hi)
  · rw [if_neg hi] at e ⊢; exact V_no hm e h0
theorem V_ialoadL {n a j : Nat} {i : Int32} (hd : decode (mCd y) pc = .ok (.iaload, 1)) (hm : mM y pc l = l) (ha : SH[a]? = some (.inr (0, n, none))) (h0 : c none = none) (hi : inb i n = true) (hj : i.toNatClampNeg = j) (k : c (mV oS X y (pc + 1) l (.int (S.1 a j) :: st) S) = rhs) : c (mV oS X y pc l (.int i :: .ref a :: st) S) = rhs := by
  exact (V_iaload (rhs := rhs) hd hm ha h0 (fun _ => by rw [hj]; exact k)).trans (if_pos hi)
theorem V_caload {n a : Nat} {i : Int32} (hd : decode (mCd y) pc = .ok (.caload, 1)) (hm : mM y pc l = l) (ha : SH[a]? = some (.inr (2, n, none))) (h0 : c none = none) (k : inb i n = true → c (mV oS X y (pc + 1) l (.int (S.1 a i.toNatClampNeg) :: st) S) = rhs) : c (mV oS X y pc l (.int i :: .ref a :: st) S) = if inb i n = true then rhs else none := by
  have e : mStep oS X y pc l (.int i :: .ref a :: st) S = if inb i n = true then some (.inl (pc + 1, l, .int (S.1 a i.toNatClampNeg) :: st, S)) else none := by
    rw [mStep_d hd]
    show mAl oS X 2 1 pc l (.int i :: .ref a :: st) S = _
    unfold mAl
    dsimp only
    rw [if_neg (SH_ns ha), show oS.ld S a 2 i = sLd S a 2 i from rfl]
    unfold sLd
    rw [ha]
    dsimp only
    by_cases hi : inb i n = true
    · rw [if_pos ⟨hi, rfl⟩, if_pos hi]; rfl
    · rw [if_neg (fun z => hi z.1), if_neg hi]
  by_cases hi : inb i n = true
  · rw [if_pos hi] at e ⊢; exact V_go hm e (k hi)
  · rw [if_neg hi] at e ⊢; exact V_no hm e h0
theorem V_caloadL {n a j : Nat} {i : Int32} (hd : decode (mCd y) pc = .ok (.caload, 1)) (hm : mM y pc l = l) (ha : SH[a]? = some (.inr (2, n, none))) (h0 : c none = none) (hi : inb i n = true) (hj : i.toNatClampNeg = j) (k : c (mV oS X y (pc + 1) l (.int (S.1 a j) :: st) S) = rhs) : c (mV oS X y pc l (.int i :: .ref a :: st) S) = rhs := by
  exact (V_caload (rhs := rhs) hd hm ha h0 (fun _ => by rw [hj]; exact k)).trans (if_pos hi)
theorem V_baload {n a t : Nat} {i : Int32} (hd : decode (mCd y) pc = .ok (.baload, 1)) (hm : mM y pc l = l) (ha : SH[a]? = some (.inr (t, n, none))) (ht : hKi 1 t = true) (h0 : c none = none) (k : inb i n = true → c (mV oS X y (pc + 1) l (.int (S.1 a i.toNatClampNeg) :: st) S) = rhs) : c (mV oS X y pc l (.int i :: .ref a :: st) S) = if inb i n = true then rhs else none := by
  have e : mStep oS X y pc l (.int i :: .ref a :: st) S = if inb i n = true then some (.inl (pc + 1, l, .int (S.1 a i.toNatClampNeg) :: st, S)) else none := by
    rw [mStep_d hd]
    show mAl oS X 1 1 pc l (.int i :: .ref a :: st) S = _
    unfold mAl
    dsimp only
    rw [if_neg (SH_ns ha), show oS.ld S a 1 i = sLd S a 1 i from rfl]
    unfold sLd
    rw [ha]
    dsimp only
    by_cases hi : inb i n = true
    · rw [if_pos ⟨hi, ht⟩, if_pos hi]; rfl
    · rw [if_neg (fun z => hi z.1), if_neg hi]
  by_cases hi : inb i n = true
  · rw [if_pos hi] at e ⊢; exact V_go hm e (k hi)
  · rw [if_neg hi] at e ⊢; exact V_no hm e h0
theorem V_aaload {n a w : Nat} {i : Int32} {rs : List (Option Nat)} (hd : decode (mCd y) pc = .ok (.aaload, 1)) (hm : mM y pc l = l) (ha : SH[a]? = some (.inr (4, n, some rs))) (hw : inb i n = true → (rs[i.toNatClampNeg]?).join = some w) (h0 : c none = none) (k : inb i n = true → c (mV oS X y (pc + 1) l (.ref w :: st) S) = rhs) : c (mV oS X y pc l (.int i :: .ref a :: st) S) = if inb i n = true then rhs else none := by
  have e : mStep oS X y pc l (.int i :: .ref a :: st) S = if inb i n = true then some (.inl (pc + 1, l, .ref w :: st, S)) else none := by
    rw [mStep_d hd]
    show mAl oS X 3 1 pc l (.int i :: .ref a :: st) S = _
    unfold mAl
    dsimp only
    rw [if_neg (SH_ns ha), show oS.ld S a 3 i = sLd S a 3 i from rfl]
    unfold sLd
    rw [ha]
    dsimp only
    by_cases hi : inb i n = true
    · rw [if_pos ⟨hi, rfl, rfl⟩, if_pos hi, hw hi]; rfl
    · rw [if_neg (fun z => hi z.1), if_neg hi]
  by_cases hi : inb i n = true
  · rw [if_pos hi] at e ⊢; exact V_go hm e (k hi)
  · rw [if_neg hi] at e ⊢; exact V_no hm e h0
theorem V_sload {i : Int32} (hd : decode (mCd y) pc = .ok (.iaload, 1)) (hm : mM y pc l = l) (h0 : c none = none) (k : inb i (X.1 - 1) = true → c (mV oS X y (pc + 1) l (.int (X.2 i.toNatClampNeg) :: st) S) = rhs) : c (mV oS X y pc l (.int i :: .ref mSid :: st) S) = if inb i (X.1 - 1) = true then rhs else none := by
  have e : mStep oS X y pc l (.int i :: .ref mSid :: st) S = if inb i (X.1 - 1) = true then some (.inl (pc + 1, l, .int (X.2 i.toNatClampNeg) :: st, S)) else none := by
    rw [mStep_d hd]
    show mAl oS X 0 1 pc l (.int i :: .ref mSid :: st) S = _
    unfold mAl
    dsimp only
    rw [if_pos rfl]
    by_cases hi : inb i (X.1 - 1) = true
    · rw [if_pos ⟨rfl, hi⟩, if_pos hi]; rfl
    · rw [if_neg (fun z => hi z.2), if_neg hi]
  by_cases hi : inb i (X.1 - 1) = true
  · rw [if_pos hi] at e ⊢; exact V_go hm e (k hi)
  · rw [if_neg hi] at e ⊢; exact V_no hm e h0
theorem V_slen {v : Int32} (hd : decode (mCd y) pc = .ok (.arraylength, 1)) (hm : mM y pc l = l) (hX : ¬ X.1 = 0) (hv : Int32.ofNat (X.1 - 1) = v) (k : c (mV oS X y (pc + 1) l (.int v :: st) S) = rhs) : c (mV oS X y pc l (.ref mSid :: st) S) = rhs := V_go hm (by rw [mStep_d hd, ← hv]; show mAn oS X 1 pc l (.ref mSid :: st) S = _; unfold mAn; dsimp only; rw [if_pos rfl, if_neg hX]; rfl) k
theorem V_alen {t n a : Nat} {rs : Option (List (Option Nat))} {v : Int32} (hd : decode (mCd y) pc = .ok (.arraylength, 1)) (hm : mM y pc l = l) (ha : SH[a]? = some (.inr (t, n, rs))) (h5 : t < 5) (hv : Int32.ofNat n = v) (k : c (mV oS X y (pc + 1) l (.int v :: st) S) = rhs) : c (mV oS X y pc l (.ref a :: st) S) = rhs := V_go hm (by
  rw [mStep_d hd, ← hv]
  show mAn oS X 1 pc l (.ref a :: st) S = _
  unfold mAn
  dsimp only
  rw [if_neg (SH_ns ha), show oS.ln S a = sLn S a from rfl]
  unfold sLn
  rw [ha]
  dsimp only
  rw [if_pos h5]
  rfl) k
theorem V_iastore {n a t : Nat} {i x x1 : Int32} (hd : decode (mCd y) pc = .ok (.iastore, 1)) (hm : mM y pc l = l) (ha : SH[a]? = some (.inr (t, n, none))) (ht : hKi 0 t = true) (hx : hNar t x = x1) (h0 : c none = none) (k : inb i n = true → c (mV oS X y (pc + 1) l st (u1 S a i.toNatClampNeg x1)) = rhs) : c (mV oS X y pc l (.int x :: .int i :: .ref a :: st) S) = if inb i n = true then rhs else none := by
  have e : mStep oS X y pc l (.int x :: .int i :: .ref a :: st) S = if inb i n = true then some (.inl (pc + 1, l, st, u1 S a i.toNatClampNeg x1)) else none := by
    rw [mStep_d hd, ← hx]
    show mAs oS 0 1 pc l (.int x :: .int i :: .ref a :: st) S = _
    unfold mAs
    dsimp only
    rw [show oS.st S a 0 i (.int x) = sSt S a 0 i (.int x) from rfl]
    unfold sSt
    rw [ha]
    dsimp only
    by_cases hi : inb i n = true
    · rw [if_pos ⟨hi, ht⟩, if_pos hi]; rfl
    · rw [if_neg (fun z => hi z.1), if_neg hi]
  by_cases hi : inb i n = true
  · rw [if_pos hi] at e ⊢; exact V_go hm e (k hi)
  · rw [if_neg hi] at e ⊢; exact V_no hm e h0
theorem V_iastoreL {n a t j : Nat} {i x x1 : Int32} (hd : decode (mCd y) pc = .ok (.iastore, 1)) (hm : mM y pc l = l) (ha : SH[a]? = some (.inr (t, n, none))) (ht : hKi 0 t = true) (hx : hNar t x = x1) (h0 : c none = none) (hi : inb i n = true) (hj : i.toNatClampNeg = j) (k : c (mV oS X y (pc + 1) l st (u1 S a j x1)) = rhs) : c (mV oS X y pc l (.int x :: .int i :: .ref a :: st) S) = rhs := by
  exact (V_iastore (rhs := rhs) hd hm ha ht hx h0 (fun _ => by rw [hj]; exact k)).trans (if_pos hi)
theorem V_bastore {n a t : Nat} {i x x1 : Int32} (hd : decode (mCd y) pc = .ok (.bastore, 1)) (hm : mM y pc l = l) (ha : SH[a]? = some (.inr (t, n, none))) (ht : hKi 1 t = true) (hx : hNar t x = x1) (h0 : c none = none) (k : inb i n = true → c (mV oS X y (pc + 1) l st (u1 S a i.toNatClampNeg x1)) = rhs) : c (mV oS X y pc l (.int x :: .int i :: .ref a :: st) S) = if inb i n = true then rhs else none := by
  have e : mStep oS X y pc l (.int x :: .int i :: .ref a :: st) S = if inb i n = true then some (.inl (pc + 1, l, st, u1 S a i.toNatClampNeg x1)) else none := by
    rw [mStep_d hd, ← hx]
    show mAs oS 1 1 pc l (.int x :: .int i :: .ref a :: st) S = _
    unfold mAs
    dsimp only
    rw [show oS.st S a 1 i (.int x) = sSt S a 1 i (.int x) from rfl]
    unfold sSt
    rw [ha]
    dsimp only
    by_cases hi : inb i n = true
    · rw [if_pos ⟨hi, ht⟩, if_pos hi]; rfl
    · rw [if_neg (fun z => hi z.1), if_neg hi]
  by_cases hi : inb i n = true
  · rw [if_pos hi] at e ⊢; exact V_go hm e (k hi)
  · rw [if_neg hi] at e ⊢; exact V_no hm e h0
theorem V_bastoreL {n a t j : Nat} {i x x1 : Int32} (hd : decode (mCd y) pc = .ok (.bastore, 1)) (hm : mM y pc l = l) (ha : SH[a]? = some (.inr (t, n, none))) (ht : hKi 1 t = true) (hx : hNar t x = x1) (h0 : c none = none) (hi : inb i n = true) (hj : i.toNatClampNeg = j) (k : c (mV oS X y (pc + 1) l st (u1 S a j x1)) = rhs) : c (mV oS X y pc l (.int x :: .int i :: .ref a :: st) S) = rhs := by
  exact (V_bastore (rhs := rhs) hd hm ha ht hx h0 (fun _ => by rw [hj]; exact k)).trans (if_pos hi)
theorem V_castore {n a t : Nat} {i x x1 : Int32} (hd : decode (mCd y) pc = .ok (.castore, 1)) (hm : mM y pc l = l) (ha : SH[a]? = some (.inr (t, n, none))) (ht : hKi 2 t = true) (hx : hNar t x = x1) (h0 : c none = none) (k : inb i n = true → c (mV oS X y (pc + 1) l st (u1 S a i.toNatClampNeg x1)) = rhs) : c (mV oS X y pc l (.int x :: .int i :: .ref a :: st) S) = if inb i n = true then rhs else none := by
  have e : mStep oS X y pc l (.int x :: .int i :: .ref a :: st) S = if inb i n = true then some (.inl (pc + 1, l, st, u1 S a i.toNatClampNeg x1)) else none := by
    rw [mStep_d hd, ← hx]
    show mAs oS 2 1 pc l (.int x :: .int i :: .ref a :: st) S = _
    unfold mAs
    dsimp only
    rw [show oS.st S a 2 i (.int x) = sSt S a 2 i (.int x) from rfl]
    unfold sSt
    rw [ha]
    dsimp only
    by_cases hi : inb i n = true
    · rw [if_pos ⟨hi, ht⟩, if_pos hi]; rfl
    · rw [if_neg (fun z => hi z.1), if_neg hi]
  by_cases hi : inb i n = true
  · rw [if_pos hi] at e ⊢; exact V_go hm e (k hi)
  · rw [if_neg hi] at e ⊢; exact V_no hm e h0
theorem V_castoreL {n a t j : Nat} {i x x1 : Int32} (hd : decode (mCd y) pc = .ok (.castore, 1)) (hm : mM y pc l = l) (ha : SH[a]? = some (.inr (t, n, none))) (ht : hKi 2 t = true) (hx : hNar t x = x1) (h0 : c none = none) (hi : inb i n = true) (hj : i.toNatClampNeg = j) (k : c (mV oS X y (pc + 1) l st (u1 S a j x1)) = rhs) : c (mV oS X y pc l (.int x :: .int i :: .ref a :: st) S) = rhs := by
  exact (V_castore (rhs := rhs) hd hm ha ht hx h0 (fun _ => by rw [hj]; exact k)).trans (if_pos hi)
theorem V_gf {idx a ci j : Nat} {v : Value} (hd : decode (mCd y) pc = .ok (.getfield idx, 3)) (hm : mM y pc l = l) (hf : fOk y idx ci j = true) (hv : sGf S a ci j = some v) (k : c (mV oS X y (pc + 3) l (v :: st) S) = rhs) : c (mV oS X y pc l (.ref a :: st) S) = rhs := V_go hm (by
  rw [mStep_d hd]
  show mGf oS y 3 pc l (.ref a :: st) S idx = _
  unfold mGf
  dsimp only
  rw [of_decide_eq_true hf]
  dsimp only
  rw [show oS.gf S a ci j = some v from hv]
  rfl) k
theorem V_pf {idx a ci j : Nat} {v : Value} {S1 : Mem} (hd : decode (mCd y) pc = .ok (.putfield idx, 3)) (hm : mM y pc l = l) (hf : pOk y idx ci j = true) (hv : sPf S a ci j v = some S1) (k : c (mV oS X y (pc + 3) l st S1) = rhs) : c (mV oS X y pc l (v :: .ref a :: st) S) = rhs := V_go hm (by
  simp only [pOk, Bool.and_eq_true, decide_eq_true_eq, Bool.not_eq_true'] at hf
  rw [mStep_d hd]
  show mPf oS y 3 pc l (v :: .ref a :: st) S idx = _
  unfold mPf
  dsimp only
  rw [hf.1]
  dsimp only
  rw [if_neg (by rw [hf.2]; decide), show oS.pf S a ci j v = some S1 from hv]
  rfl) k
theorem sPf_Z {a ci j : Nat} {x : Int32} {fk : List sK} (ha : SH[a]? = some (.inl (ci, fk))) (hj : fk[j]? = some (.inr false)) (hk : mFk ci j = 1) : sPf S a ci j (.int x) = if zb x = true then some (u1 S a j x) else none := by
  unfold sPf
  rw [ha]
  dsimp only
  have e : hOk ci j (.int x) = zb x := by unfold hOk; rw [hk]; rfl
  rw [e]
  by_cases hz : zb x = true
  · rw [if_pos ⟨rfl, hz⟩, if_pos hz, hj]
  · rw [if_neg (fun q => hz q.2), if_neg hz]
theorem V_pfZ {idx a ci j : Nat} {x : Int32} {fk : List sK} (hd : decode (mCd y) pc = .ok (.putfield idx, 3)) (hm : mM y pc l = l) (hf : pOk y idx ci j = true) (ha : SH[a]? = some (.inl (ci, fk))) (hj : fk[j]? = some (.inr false)) (hk : mFk ci j = 1) (h0 : c none = none) (k : zb x = true → c (mV oS X y (pc + 3) l st (u1 S a j x)) = rhs) : c (mV oS X y pc l (.int x :: .ref a :: st) S) = if zb x = true then rhs else none := by
  by_cases hz : zb x = true
  · rw [if_pos hz]
    exact V_pf hd hm hf (by rw [sPf_Z ha hj hk, if_pos hz]) (k hz)
  · rw [if_neg hz]
    refine V_no hm ?_ h0
    simp only [pOk, Bool.and_eq_true, decide_eq_true_eq, Bool.not_eq_true'] at hf
    rw [mStep_d hd]
    show mPf oS y 3 pc l (.int x :: .ref a :: st) S idx = _
    unfold mPf
    dsimp only
    rw [hf.1]
    dsimp only
    rw [if_neg (by rw [hf.2]; decide), show oS.pf S a ci j (.int x) = none from by
      show sPf S a ci j (.int x) = none
      rw [sPf_Z ha hj hk, if_neg hz]]
theorem V_min {idx : Nat} {x z : Int32} {k9 : Nat} (hd : decode (mCd y) pc = .ok (.invokestatic idx, 3)) (hm : mM y pc l = l) (h1 : lk (mMt (mOwn y)) idx = none) (h2 : lk (mXq (mOwn y)) idx = some (k9, false)) (h3 : mRx y = true) (h4 : mSm st = true) (k : c (mV oS X y (pc + 3) l (.int (if z < x then z else x) :: st) S) = rhs) : c (mV oS X y pc l (.int z :: .int x :: st) S) = rhs := V_go hm (by
  rw [mStep_d hd]
  show mCi oS y 3 pc l (.int z :: .int x :: st) S idx = _
  unfold mCi
  rw [h1]
  dsimp only
  rw [h2]
  dsimp only
  rw [if_pos h3, if_pos h4]
  rfl) k
theorem V_max {idx : Nat} {x z : Int32} {k9 : Nat} (hd : decode (mCd y) pc = .ok (.invokestatic idx, 3)) (hm : mM y pc l = l) (h1 : lk (mMt (mOwn y)) idx = none) (h2 : lk (mXq (mOwn y)) idx = some (k9, true)) (h3 : mRx y = true) (h4 : mSm st = true) (k : c (mV oS X y (pc + 3) l (.int (if x < z then z else x) :: st) S) = rhs) : c (mV oS X y pc l (.int z :: .int x :: st) S) = rhs := V_go hm (by
  rw [mStep_d hd]
  show mCi oS y 3 pc l (.int z :: .int x :: st) S idx = _
  unfold mCi
  rw [h1]
  dsimp only
  rw [h2]
  dsimp only
  rw [if_pos h3, if_pos h4]
  rfl) k
theorem V_copy {idx a0 a : Nat} {sp dp n : Int32} {S1 : Mem} (hd : decode (mCd y) pc = .ok (.invokestatic idx, 3)) (hm : mM y pc l = l) (h1 : lk (mMt (mOwn y)) idx = none) (h2 : lk (mXq (mOwn y)) idx = none) (h3 : (mNt (mOwn y) idx && mRn y) = true) (h4 : mSm st = true) (hv : sCp S a0 sp a dp n = some S1) (k : c (mV oS X y (pc + 3) l st S1) = rhs) : c (mV oS X y pc l (.int n :: .int dp :: .ref a :: .int sp :: .ref a0 :: st) S) = rhs := V_go hm (by
  rw [mStep_d hd]
  show mCi oS y 3 pc l (.int n :: .int dp :: .ref a :: .int sp :: .ref a0 :: st) S idx = _
  unfold mCi
  rw [h1]
  dsimp only
  rw [h2]
  dsimp only
  rw [if_pos h3, if_pos h4, show oS.cp S a0 sp a dp n = some S1 from hv]
  rfl) k
theorem take_rev {α : Type} (As : List α) (r : List α) {n : Nat} (hn : As.length = n) : (As.reverse ++ r).take n = As.reverse ∧ (As.reverse ++ r).drop n = r := by
  subst hn
  constructor
  · rw [List.take_append_of_le_length (by simp)]
    rw [List.take_of_length_le (by simp)]
  · rw [List.drop_append_of_le_length (by simp)]
    rw [List.drop_of_length_le (by simp)]
    rfl
theorem V_cv {idx y1 a rk np : Nat} {As rest : List Value} {en : mL} {E : Option Value × Mem → Option γ} (hd : decode (mCd y) pc = .ok (.invokevirtual idx, 3)) (hm : mM y pc l = l) (hk : cvOk y idx y1 np rk = true) (hn : As.length = np) (hcl : sCl S a = some (mOwn y1)) (hsm : mSm rest = true) (hen : mEnt (.ref a :: As) (mMx y1) = en) (hel : (mEn (.ref a :: As)).length ≤ mMx y1) (h0 : c none = none) (k : ∀ q : Option Value × Mem, mV oS X y1 0 en [] S = some q → c (mV oS X y (pc + 3) l (q.1.toList ++ rest) q.2) = E q) : c (mV oS X y pc l (As.reverse ++ .ref a :: rest) S) = (mV oS X y1 0 en [] S).bind E := by
  simp only [cvOk, Bool.and_eq_true, decide_eq_true_eq, Bool.not_eq_true'] at hk
  obtain ⟨⟨⟨⟨⟨k1, k2⟩, k3⟩, k4⟩, k5⟩, k6⟩ := hk
  have e : mStep oS X y pc l (As.reverse ++ .ref a :: rest) S = some (.inr (.inr (y1, .ref a :: As, pc + 3, l, rest, S))) := by
    rw [mStep_d hd]
    show mCv oS false y 3 pc l (As.reverse ++ .ref a :: rest) S idx = _
    unfold mCv
    rw [k1]
    dsimp only
    obtain ⟨t1, t2⟩ := take_rev As (.ref a :: rest) (hn.trans k2.symm)
    rw [t1, t2, List.reverse_reverse]
    dsimp only
    rw [if_pos]
    refine ⟨rfl, by simp; omega, hsm, by rw [k3, k4]; rfl, ?_, hel, k5⟩
    rw [show oS.cl S a = some (mOwn y1) from hcl]
    simp
  rw [mV_unf, hm, e]
  dsimp only
  rw [hen]
  cases hv : mV oS X y1 0 en [] S with
  | none => exact h0
  | some q => exact k q hv
theorem V_ci {idx y1 rk np : Nat} {As rest : List Value} {en : mL} {E : Option Value × Mem → Option γ} (hd : decode (mCd y) pc = .ok (.invokestatic idx, 3)) (hm : mM y pc l = l) (hk : ciOk y idx y1 np rk = true) (hn : As.length = np) (hsm : mSm rest = true) (hen : mEnt As (mMx y1) = en) (hel : (mEn As).length ≤ mMx y1) (h0 : c none = none) (k : ∀ q : Option Value × Mem, mV oS X y1 0 en [] S = some q → c (mV oS X y (pc + 3) l (q.1.toList ++ rest) q.2) = E q) : c (mV oS X y pc l (As.reverse ++ rest) S) = (mV oS X y1 0 en [] S).bind E := by
  simp only [ciOk, Bool.and_eq_true, decide_eq_true_eq] at hk
  obtain ⟨⟨⟨⟨k1, k2⟩, k4⟩, k5⟩, k6⟩ := hk
  have e : mStep oS X y pc l (As.reverse ++ rest) S = some (.inr (.inr (y1, As, pc + 3, l, rest, S))) := by
    rw [mStep_d hd]
    show mCi oS y 3 pc l (As.reverse ++ rest) S idx = _
    unfold mCi
    rw [k1]
    dsimp only
    obtain ⟨t1, t2⟩ := take_rev As rest (hn.trans k2.symm)
    rw [t1, t2, List.reverse_reverse]
    rw [if_pos]
    exact ⟨rfl, by simp; omega, hsm, k4, hel, k5⟩
  rw [mV_unf, hm, e]
  dsimp only
  rw [hen]
  cases hv : mV oS X y1 0 en [] S with
  | none => exact h0
  | some q => exact k q hv
theorem ty_I {y1 : Nat} {v : Option Value} (h : tyOK (mRt y1) v) (hk : mRk (mRt y1) = 0) : ∃ x, v = some (.int x) := by
  rcases h with ⟨x, e, -⟩ | ⟨x, -, e⟩ | ⟨x, -, -, e⟩ | ⟨-, e⟩
  · exact ⟨x, e⟩
  · rw [e] at hk; cases hk
  · exfalso
    unfold mRa at e
    split at e
    · next q => rw [q] at hk; cases hk
    · next q => rw [q] at hk; cases hk
    · cases e
  · rw [e] at hk; cases hk
theorem ty_J {y1 : Nat} {v : Option Value} (h : tyOK (mRt y1) v) (hk : mRk (mRt y1) = 1) : ∃ x, v = some (.long x) := by
  rcases h with ⟨x, -, e⟩ | ⟨x, e, -⟩ | ⟨x, -, -, e⟩ | ⟨-, e⟩
  · exfalso
    unfold mRo at e
    split at e
    · next q => rw [q] at hk; cases hk
    · next q => rw [q] at hk; cases hk
    · next q => rw [q] at hk; cases hk
    · cases e
  · exact ⟨x, e⟩
  · exfalso
    unfold mRa at e
    split at e
    · next q => rw [q] at hk; cases hk
    · next q => rw [q] at hk; cases hk
    · cases e
  · rw [e] at hk; cases hk
theorem ty_A {y1 : Nat} {v : Option Value} (h : tyOK (mRt y1) v) (hk : mRk (mRt y1) = 2) : ∃ o, v = some (va_rf o) := by
  rcases h with ⟨x, -, e⟩ | ⟨x, -, e⟩ | ⟨x, e, e2, -⟩ | ⟨-, e⟩
  · exfalso
    unfold mRo at e
    split at e
    · next q => rw [q] at hk; cases hk
    · next q => rw [q] at hk; cases hk
    · next q => rw [q] at hk; cases hk
    · cases e
  · rw [e] at hk; cases hk
  · rcases e2 with rfl | ⟨a, rfl⟩
    · exact ⟨none, e⟩
    · exact ⟨some a, e⟩
  · rw [e] at hk; cases hk
theorem ty_U {y1 : Nat} {v : Option Value} (h : tyOK (mRt y1) v) (hk : mRk (mRt y1) = 3) : v = none := by
  rcases h with ⟨x, -, e⟩ | ⟨x, -, e⟩ | ⟨x, -, -, e⟩ | ⟨e, -⟩
  · exfalso
    unfold mRo at e
    split at e
    · next q => rw [q] at hk; cases hk
    · next q => rw [q] at hk; cases hk
    · next q => rw [q] at hk; cases hk
    · cases e
  · rw [e] at hk; cases hk
  · exfalso
    unfold mRa at e
    split at e
    · next q => rw [q] at hk; cases hk
    · next q => rw [q] at hk; cases hk
    · cases e
  · exact e
theorem bind_I {y1 pc1 : Nat} {en : mL} {E : Option Value × Mem → Option γ} {F : Int32 × Mem → Option γ} (hk : mRk (mRt y1) = 0) (h : ∀ x S1, E (some (.int x), S1) = F (x, S1)) : (mV oS X y1 pc1 en [] S).bind E = (cI (mV oS X y1 pc1 en [] S)).bind F := by
  cases hv : mV oS X y1 pc1 en [] S with
  | none => rfl
  | some q =>
    obtain ⟨v, S1⟩ := q
    obtain ⟨x, rfl⟩ := ty_I (mV_ty hv) hk
    exact h x S1
theorem bind_J {y1 pc1 : Nat} {en : mL} {E : Option Value × Mem → Option γ} {F : Int64 × Mem → Option γ} (hk : mRk (mRt y1) = 1) (h : ∀ x S1, E (some (.long x), S1) = F (x, S1)) : (mV oS X y1 pc1 en [] S).bind E = (cJ (mV oS X y1 pc1 en [] S)).bind F := by
  cases hv : mV oS X y1 pc1 en [] S with
  | none => rfl
  | some q =>
    obtain ⟨v, S1⟩ := q
    obtain ⟨x, rfl⟩ := ty_J (mV_ty hv) hk
    exact h x S1
theorem bind_A {y1 pc1 : Nat} {en : mL} {E : Option Value × Mem → Option γ} {F : Option Nat × Mem → Option γ} (hk : mRk (mRt y1) = 2) (h : ∀ o S1, E (some (va_rf o), S1) = F (o, S1)) : (mV oS X y1 pc1 en [] S).bind E = (cA (mV oS X y1 pc1 en [] S)).bind F := by
  cases hv : mV oS X y1 pc1 en [] S with
  | none => rfl
  | some q =>
    obtain ⟨v, S1⟩ := q
    obtain ⟨o, rfl⟩ := ty_A (mV_ty hv) hk
    cases o with
    | none => exact h none S1
    | some a => exact h (some a) S1
theorem bind_U {y1 pc1 : Nat} {en : mL} {E : Option Value × Mem → Option γ} {F : Mem → Option γ} (hk : mRk (mRt y1) = 3) (h : ∀ S1, E (none, S1) = F S1) : (mV oS X y1 pc1 en [] S).bind E = (cU (mV oS X y1 pc1 en [] S)).bind F := by
  cases hv : mV oS X y1 pc1 en [] S with
  | none => rfl
  | some q =>
    obtain ⟨v, S1⟩ := q
    obtain rfl := ty_U (mV_ty hv) hk
    exact h S1
theorem cvOk_rk {idx y1 np rk : Nat} (hk : cvOk y idx y1 np rk = true) : mRk (mRt y1) = rk := by
  simp only [cvOk, Bool.and_eq_true, decide_eq_true_eq] at hk
  exact hk.2
theorem ciOk_rk {idx y1 np rk : Nat} (hk : ciOk y idx y1 np rk = true) : mRk (mRt y1) = rk := by
  simp only [ciOk, Bool.and_eq_true, decide_eq_true_eq] at hk
  exact hk.2
theorem V_cvI {idx y1 a np : Nat} {As rest : List Value} {en : mL} {E : Int32 → Mem → Option γ} (hd : decode (mCd y) pc = .ok (.invokevirtual idx, 3)) (hm : mM y pc l = l) (hk : cvOk y idx y1 np 0 = true) (hn : As.length = np) (hcl : sCl S a = some (mOwn y1)) (hsm : mSm rest = true) (hen : mEnt (.ref a :: As) (mMx y1) = en) (hel : (mEn (.ref a :: As)).length ≤ mMx y1) (h0 : c none = none) (k : ∀ (r : Int32) (S1 : Mem), c (mV oS X y (pc + 3) l (.int r :: rest) S1) = E r S1) : c (mV oS X y pc l (As.reverse ++ .ref a :: rest) S) = bI (cI (mV oS X y1 0 en [] S)) E := by
  refine (V_cv (E := fun q => match q.1 with | some (.int r) => E r q.2 | _ => none) hd hm hk hn hcl hsm hen hel h0 (fun q hq => ?_)).trans (bind_I (cvOk_rk hk) ?_)
  · obtain ⟨v, S1⟩ := q
    obtain ⟨r, rfl⟩ := ty_I (mV_ty hq) (cvOk_rk hk)
    exact k r S1
  · intro x S1; rfl
theorem V_ciI {idx y1 np : Nat} {As rest : List Value} {en : mL} {E : Int32 → Mem → Option γ} (hd : decode (mCd y) pc = .ok (.invokestatic idx, 3)) (hm : mM y pc l = l) (hk : ciOk y idx y1 np 0 = true) (hn : As.length = np) (hsm : mSm rest = true) (hen : mEnt As (mMx y1) = en) (hel : (mEn As).length ≤ mMx y1) (h0 : c none = none) (k : ∀ (r : Int32) (S1 : Mem), c (mV oS X y (pc + 3) l (.int r :: rest) S1) = E r S1) : c (mV oS X y pc l (As.reverse ++ rest) S) = bI (cI (mV oS X y1 0 en [] S)) E := by
  refine (V_ci (E := fun q => match q.1 with | some (.int r) => E r q.2 | _ => none) hd hm hk hn hsm hen hel h0 (fun q hq => ?_)).trans (bind_I (ciOk_rk hk) ?_)
  · obtain ⟨v, S1⟩ := q
    obtain ⟨r, rfl⟩ := ty_I (mV_ty hq) (ciOk_rk hk)
    exact k r S1
  · intro x S1; rfl
theorem V_cvJ {idx y1 a np : Nat} {As rest : List Value} {en : mL} {E : Int64 → Mem → Option γ} (hd : decode (mCd y) pc = .ok (.invokevirtual idx, 3)) (hm : mM y pc l = l) (hk : cvOk y idx y1 np 1 = true) (hn : As.length = np) (hcl : sCl S a = some (mOwn y1)) (hsm : mSm rest = true) (hen : mEnt (.ref a :: As) (mMx y1) = en) (hel : (mEn (.ref a :: As)).length ≤ mMx y1) (h0 : c none = none) (k : ∀ (r : Int64) (S1 : Mem), c (mV oS X y (pc + 3) l (.long r :: rest) S1) = E r S1) : c (mV oS X y pc l (As.reverse ++ .ref a :: rest) S) = bJ (cJ (mV oS X y1 0 en [] S)) E := by
  refine (V_cv (E := fun q => match q.1 with | some (.long r) => E r q.2 | _ => none) hd hm hk hn hcl hsm hen hel h0 (fun q hq => ?_)).trans (bind_J (cvOk_rk hk) ?_)
  · obtain ⟨v, S1⟩ := q
    obtain ⟨r, rfl⟩ := ty_J (mV_ty hq) (cvOk_rk hk)
    exact k r S1
  · intro x S1; rfl
theorem V_ciJ {idx y1 np : Nat} {As rest : List Value} {en : mL} {E : Int64 → Mem → Option γ} (hd : decode (mCd y) pc = .ok (.invokestatic idx, 3)) (hm : mM y pc l = l) (hk : ciOk y idx y1 np 1 = true) (hn : As.length = np) (hsm : mSm rest = true) (hen : mEnt As (mMx y1) = en) (hel : (mEn As).length ≤ mMx y1) (h0 : c none = none) (k : ∀ (r : Int64) (S1 : Mem), c (mV oS X y (pc + 3) l (.long r :: rest) S1) = E r S1) : c (mV oS X y pc l (As.reverse ++ rest) S) = bJ (cJ (mV oS X y1 0 en [] S)) E := by
  refine (V_ci (E := fun q => match q.1 with | some (.long r) => E r q.2 | _ => none) hd hm hk hn hsm hen hel h0 (fun q hq => ?_)).trans (bind_J (ciOk_rk hk) ?_)
  · obtain ⟨v, S1⟩ := q
    obtain ⟨r, rfl⟩ := ty_J (mV_ty hq) (ciOk_rk hk)
    exact k r S1
  · intro x S1; rfl
theorem V_cvA {idx y1 a np : Nat} {As rest : List Value} {en : mL} {E : Option Nat → Mem → Option γ} (hd : decode (mCd y) pc = .ok (.invokevirtual idx, 3)) (hm : mM y pc l = l) (hk : cvOk y idx y1 np 2 = true) (hn : As.length = np) (hcl : sCl S a = some (mOwn y1)) (hsm : mSm rest = true) (hen : mEnt (.ref a :: As) (mMx y1) = en) (hel : (mEn (.ref a :: As)).length ≤ mMx y1) (h0 : c none = none) (k : ∀ (r : Option Nat) (S1 : Mem), c (mV oS X y (pc + 3) l (va_rf r :: rest) S1) = E r S1) : c (mV oS X y pc l (As.reverse ++ .ref a :: rest) S) = bA (cA (mV oS X y1 0 en [] S)) E := by
  refine (V_cv (E := fun q => match q.1 with | some (.ref r) => E (some r) q.2 | some .null => E none q.2 | _ => none) hd hm hk hn hcl hsm hen hel h0 (fun q hq => ?_)).trans (bind_A (cvOk_rk hk) ?_)
  · obtain ⟨v, S1⟩ := q
    obtain ⟨o, rfl⟩ := ty_A (mV_ty hq) (cvOk_rk hk)
    cases o with
    | none => exact k none S1
    | some r => exact k (some r) S1
  · intro o S1; cases o <;> rfl
theorem V_ciA {idx y1 np : Nat} {As rest : List Value} {en : mL} {E : Option Nat → Mem → Option γ} (hd : decode (mCd y) pc = .ok (.invokestatic idx, 3)) (hm : mM y pc l = l) (hk : ciOk y idx y1 np 2 = true) (hn : As.length = np) (hsm : mSm rest = true) (hen : mEnt As (mMx y1) = en) (hel : (mEn As).length ≤ mMx y1) (h0 : c none = none) (k : ∀ (r : Option Nat) (S1 : Mem), c (mV oS X y (pc + 3) l (va_rf r :: rest) S1) = E r S1) : c (mV oS X y pc l (As.reverse ++ rest) S) = bA (cA (mV oS X y1 0 en [] S)) E := by
  refine (V_ci (E := fun q => match q.1 with | some (.ref r) => E (some r) q.2 | some .null => E none q.2 | _ => none) hd hm hk hn hsm hen hel h0 (fun q hq => ?_)).trans (bind_A (ciOk_rk hk) ?_)
  · obtain ⟨v, S1⟩ := q
    obtain ⟨o, rfl⟩ := ty_A (mV_ty hq) (ciOk_rk hk)
    cases o with
    | none => exact k none S1
    | some r => exact k (some r) S1
  · intro o S1; cases o <;> rfl
theorem V_cvU {idx y1 a np : Nat} {As rest : List Value} {en : mL} {E : Mem → Option γ} (hd : decode (mCd y) pc = .ok (.invokevirtual idx, 3)) (hm : mM y pc l = l) (hk : cvOk y idx y1 np 3 = true) (hn : As.length = np) (hcl : sCl S a = some (mOwn y1)) (hsm : mSm rest = true) (hen : mEnt (.ref a :: As) (mMx y1) = en) (hel : (mEn (.ref a :: As)).length ≤ mMx y1) (h0 : c none = none) (k : ∀  (S1 : Mem), c (mV oS X y (pc + 3) l ( rest) S1) = E S1) : c (mV oS X y pc l (As.reverse ++ .ref a :: rest) S) = bU (cU (mV oS X y1 0 en [] S)) E := by
  refine (V_cv (E := fun q => match q.1 with | none => E q.2 | _ => none) hd hm hk hn hcl hsm hen hel h0 (fun q hq => ?_)).trans (bind_U (cvOk_rk hk) ?_)
  · obtain ⟨v, S1⟩ := q
    obtain rfl := ty_U (mV_ty hq) (cvOk_rk hk)
    exact k S1
  · intro S1; rfl
theorem V_ciU {idx y1 np : Nat} {As rest : List Value} {en : mL} {E : Mem → Option γ} (hd : decode (mCd y) pc = .ok (.invokestatic idx, 3)) (hm : mM y pc l = l) (hk : ciOk y idx y1 np 3 = true) (hn : As.length = np) (hsm : mSm rest = true) (hen : mEnt As (mMx y1) = en) (hel : (mEn As).length ≤ mMx y1) (h0 : c none = none) (k : ∀  (S1 : Mem), c (mV oS X y (pc + 3) l ( rest) S1) = E S1) : c (mV oS X y pc l (As.reverse ++ rest) S) = bU (cU (mV oS X y1 0 en [] S)) E := by
  refine (V_ci (E := fun q => match q.1 with | none => E q.2 | _ => none) hd hm hk hn hsm hen hel h0 (fun q hq => ?_)).trans (bind_U (ciOk_rk hk) ?_)
  · obtain ⟨v, S1⟩ := q
    obtain rfl := ty_U (mV_ty hq) (ciOk_rk hk)
    exact k S1
  · intro S1; rfl
theorem V_iret {x : Int32} (hd : decode (mCd y) pc = .ok (.ireturn, 1)) (hm : mM y pc l = l) (ht : mRo (mRt y) x = true) : cI (mV oS X y pc l [.int x] S) = some (x, S) := by
  rw [mV_unf, hm, mStep_d hd]
  simp [mIns, ht, cI]
theorem V_iretZ {x : Int32} (hd : decode (mCd y) pc = .ok (.ireturn, 1)) (hm : mM y pc l = l) (ht : mRo (mRt y) x = zb x) : cI (mV oS X y pc l [.int x] S) = if zb x = true then some (x, S) else none := by
  rw [mV_unf, hm, mStep_d hd]
  by_cases hz : zb x = true
  · rw [if_pos hz]
    rw [hz] at ht
    simp [mIns, ht, cI]
  · rw [if_neg hz]
    have hz2 : mRo (mRt y) x = false := by rw [ht]; simpa using hz
    simp [mIns, hz2, cI]
theorem V_iretC {x : Int32} (hd : decode (mCd y) pc = .ok (.ireturn, 1)) (hm : mM y pc l = l) (ht : mRo (mRt y) x = inb x 65536) : cI (mV oS X y pc l [.int x] S) = if inb x 65536 = true then some (x, S) else none := by
  rw [mV_unf, hm, mStep_d hd]
  by_cases hz : inb x 65536 = true
  · rw [if_pos hz]
    rw [hz] at ht
    simp [mIns, ht, cI]
  · rw [if_neg hz]
    have hz2 : mRo (mRt y) x = false := by rw [ht]; simpa using hz
    simp [mIns, hz2, cI]
theorem V_lret {x : Int64} (hd : decode (mCd y) pc = .ok (.lreturn, 1)) (hm : mM y pc l = l) (ht : mRt y = some .long) : cJ (mV oS X y pc l [.long x] S) = some (x, S) := by
  rw [mV_unf, hm, mStep_d hd]
  simp [mIns, ht, cJ]
theorem V_aret {o : Option Nat} (hd : decode (mCd y) pc = .ok (.areturn, 1)) (hm : mM y pc l = l) (ht : mRa (mRt y) = true) : cA (mV oS X y pc l [va_rf o] S) = some (o, S) := by
  rw [mV_unf, hm, mStep_d hd]
  cases o <;> simp [mIns, va_rf, ht, cA]
theorem V_vret (hd : decode (mCd y) pc = .ok (.return_, 1)) (hm : mM y pc l = l) (ht : mRt y = none) : cU (mV oS X y pc l [] S) = some S := by
  rw [mV_unf, hm, mStep_d hd]
  simp [mIns, ht, cU]
end VR
end
section
/-! the constructors, run by the kernel: the heap that they leave has the shape SH -/
def fkOk : List Value → List sK → Bool
  | [], [] => true
  | .int _ :: r, .inr false :: s => fkOk r s
  | .long _ :: r, .inr true :: s => fkOk r s
  | .ref a :: r, .inl (some b) :: s => decide (a = b) && fkOk r s
  | .null :: r, .inl none :: s => fkOk r s
  | _, _ => false
def cOk : mC → sC → Bool
  | .inl (t, n, .inl _), .inr (t1, n1, none) => decide (t = t1) && decide (n = n1)
  | .inl (t, n, .inr g), .inr (t1, n1, some rs) => decide (t = t1) && decide (n = n1) && decide (g = rs)
  | .inr (c, fs), .inl (ci, fk) => decide (c = ci) && fkOk fs fk
  | _, _ => false
def hpOk : mH → List sC → Bool
  | [], [] => true
  | c :: r, d :: s => cOk c d && hpOk r s
  | _, _ => false
def S1of (h : mH) (a k : Nat) : Int32 := match h[a]? with
  | some (.inl (_, _, .inl f)) => f k
  | some (.inr (_, fs)) => (match fs[k]? with
    | some (.int x) => x
    | _ => 0)
  | _ => 0
def S2of (h : mH) (a k : Nat) : Int64 := match h[a]? with
  | some (.inr (_, fs)) => (match fs[k]? with
    | some (.long x) => x
    | _ => 0)
  | _ => 0
def Sof (h : mH) : Mem := (S1of h, S2of h)
theorem fkOk_ok (S : Mem) (a : Nat) : ∀ (fs : List Value) (fk : List sK) (k0 : Nat), fkOk fs fk = true → (∀ j x, fs[j]? = some (.int x) → S.1 a (k0 + j) = x) → (∀ j x, fs[j]? = some (.long x) → S.2 a (k0 + j) = x) → sFs S a k0 fk = fs
  | [], [], _, _, _, _ => rfl
  | v :: r, f :: s, k0, h, h1, h2 => by
    have step : fkOk r s = true → sF1 S a k0 f = v → sFs S a k0 (f :: s) = v :: r := by
      intro g1 g2
      simp only [sFs]
      rw [g2, fkOk_ok S a r s (k0 + 1) g1 (fun j x e => by have := h1 (j + 1) x (by simpa using e); rwa [show k0 + 1 + j = k0 + (j + 1) by omega]) (fun j x e => by have := h2 (j + 1) x (by simpa using e); rwa [show k0 + 1 + j = k0 + (j + 1) by omega])]
    unfold fkOk at h
    split at h
    · next e1 e2 => cases e1
    · next e1 e2 => cases e1; cases e2; exact step h (by have := h1 0 _ rfl; simpa [sF1] using this)
    · next e1 e2 => cases e1; cases e2; exact step h (by have := h2 0 _ rfl; simpa [sF1] using this)
    · next e1 e2 =>
      cases e1; cases e2
      simp only [Bool.and_eq_true, decide_eq_true_eq] at h
      exact step h.2 (by rw [h.1]; rfl)
    · next e1 e2 => cases e1; cases e2; exact step h rfl
    · cases h
  | [], f :: s, _, h, _, _ => by simp [fkOk] at h
  | v :: r, [], _, h, _, _ => by cases v <;> simp [fkOk] at h
theorem cOk_ok {S : Mem} {a : Nat} {c : mC} {d : sC} (h : cOk c d = true) (h1 : ∀ t n f, c = .inl (t, n, .inl f) → S.1 a = f) (h2 : ∀ ci fs, c = .inr (ci, fs) → (∀ j x, fs[j]? = some (.int x) → S.1 a j = x) ∧ ∀ j x, fs[j]? = some (.long x) → S.2 a j = x) : sI S a d = c := by
  unfold cOk at h
  split at h
  · next t n f t1 n1 =>
    simp only [Bool.and_eq_true, decide_eq_true_eq] at h
    obtain ⟨rfl, rfl⟩ := h
    simp only [sI, h1 _ _ _ rfl]
  · next t n g t1 n1 rs =>
    simp only [Bool.and_eq_true, decide_eq_true_eq] at h
    obtain ⟨⟨rfl, rfl⟩, rfl⟩ := h
    rfl
  · next c fs ci fk =>
    simp only [Bool.and_eq_true, decide_eq_true_eq] at h
    obtain ⟨rfl, h⟩ := h
    obtain ⟨g1, g2⟩ := h2 _ _ rfl
    simp only [sI]
    rw [fkOk_ok S a fs fk 0 h (fun j x e => by rw [Nat.zero_add]; exact g1 j x e) (fun j x e => by rw [Nat.zero_add]; exact g2 j x e)]
  · cases h
theorem hpOk_ok {S : Mem} : ∀ (h : mH) (l : List sC) (a0 : Nat), hpOk h l = true → (∀ a c, h[a]? = some c → (∀ t n f, c = .inl (t, n, .inl f) → S.1 (a0 + a) = f) ∧ ∀ ci fs, c = .inr (ci, fs) → (∀ j x, fs[j]? = some (.int x) → S.1 (a0 + a) j = x) ∧ ∀ j x, fs[j]? = some (.long x) → S.2 (a0 + a) j = x) → hOf S a0 l = h
  | [], [], _, _, _ => rfl
  | c :: r, d :: s, a0, h, hc => by
    simp only [hpOk, Bool.and_eq_true] at h
    simp only [hOf]
    have h0 := hc 0 c rfl
    rw [Nat.add_zero] at h0
    rw [cOk_ok h.1 h0.1 h0.2, hpOk_ok r s (a0 + 1) h.2 (fun a e he => by have := hc (a + 1) e (by simpa using he); rwa [show a0 + 1 + a = a0 + (a + 1) by omega])]
  | [], _ :: _, _, h, _ => by simp [hpOk] at h
  | _ :: _, [], _, h, _ => by simp [hpOk] at h
theorem hO_Sof {h : mH} (hh : hpOk h SH = true) : hO (Sof h) = h := by
  refine hpOk_ok h SH 0 hh (fun a c e => ⟨fun t n f ec => ?_, fun ci fs ec => ⟨fun j x ej => ?_, fun j x ej => ?_⟩⟩)
  · subst ec
    rw [Nat.zero_add]
    funext k
    simp [Sof, S1of, e]
  · subst ec
    rw [Nat.zero_add]
    simp [Sof, S1of, e, ej]
  · subst ec
    rw [Nat.zero_add]
    simp [Sof, S2of, e, ej]
def cSz : sC → Nat
  | .inl (_, fk) => fk.length
  | .inr (_, n, _) => n
theorem sI_sz (S : Mem) (a : Nat) : ∀ c : sC, hSz1 (sI S a c) = cSz c
  | .inl (ci, fk) => by simp only [sI, hSz1, cSz, sFs_len]
  | .inr (t, n, none) => rfl
  | .inr (t, n, some rs) => rfl
theorem hOf_size (S : Mem) : ∀ (l : List sC) (a : Nat), hSz (hOf S a l) = (l.map cSz).sum
  | [], _ => rfl
  | c :: r, a => by
    have h1 : hSz (hOf S a (c :: r)) = hSz1 (sI S a c) + hSz (hOf S (a + 1) r) := by
      unfold hSz
      simp only [hOf, List.map_cons, List.sum_cons]
    rw [h1, sI_sz, hOf_size S r (a + 1)]
    simp only [List.map_cons, List.sum_cons]
theorem hO_size (S : Mem) : hSz (hO S) = (SH.map cSz).sum := hOf_size S SH 0
def hA : mH := match mRun oH X0 6000 71 0 (mEnt [.ref 0] (mMx 71)) [] [.inr (8, hDf 8 12)] with
  | some q => q.2
  | none => []
def hB : mH := match mRun oH X0 6000 106 0 (mEnt [.ref hA.length] (mMx 106)) [] (hA ++ [.inr (9, hDf 9 53)]) with
  | some q => q.2
  | none => []
set_option maxRecDepth 1000000 in
theorem hA_ok : (match mRun oH X0 6000 71 0 (mEnt [.ref 0] (mMx 71)) [] [.inr (8, hDf 8 12)] with
  | some (none, h) => decide (h.length = rM)
  | _ => false) = true := by decide +kernel
set_option maxRecDepth 1000000 in
theorem hB_ok : (match mRun oH X0 6000 106 0 (mEnt [.ref hA.length] (mMx 106)) [] (hA ++ [.inr (9, hDf 9 53)]) with
  | some (none, h) => hpOk h SH
  | _ => false) = true := by decide +kernel
theorem hA_run : mRun oH X0 6000 71 0 (mEnt [.ref 0] (mMx 71)) [] [.inr (8, hDf 8 12)] = some (none, hA) ∧ hA.length = rM := by
  have h := hA_ok
  split at h
  · next h1 e =>
    have e2 : hA = h1 := by unfold hA; rw [e]
    rw [e2]
    exact ⟨e, of_decide_eq_true h⟩
  · cases h
theorem hB_run : mRun oH X0 6000 106 0 (mEnt [.ref hA.length] (mMx 106)) [] (hA ++ [.inr (9, hDf 9 53)]) = some (none, hB) ∧ hpOk hB SH = true := by
  have h := hB_ok
  split at h
  · next h1 e =>
    have e2 : hB = h1 := by unfold hB; rw [e]
    rw [e2]
    exact ⟨e, h⟩
  · cases h
/-- the numbers behind the constructors -/
def S0 : Mem := Sof hB
theorem S0_ok : hO S0 = hB := hO_Sof hB_run.2
theorem S0_size : hB.length ≤ 1000 ∧ hSz hB ≤ 100000 := by
  have e := S0_ok
  have h1 : hB.length = SH.length := by rw [← e]; unfold hO; rw [hOf_len]
  refine ⟨by rw [h1]; decide +kernel, ?_⟩
  rw [← e, hO_size]
  decide +kernel
end
