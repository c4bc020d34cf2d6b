section
-- ===== PART A: goes FIRST, ahead of the names: the tables' words, and 'selects' of the private methods out of them =====
/-- a private method of a class that the tables say can be made, by its rows of tables_1 -/
def lw_okq (q : MethodName × Nat) : Prop := (q.1.cls ≠ "java/lang/invoke/MethodHandle" ∧ q.1.cls ≠ "java/lang/invoke/VarHandle") ∧ Cond.instantiable q.1.cls q.2 ∈ tables_1 ∧ Cond.privateMethod q.1 ∈ tables_1 ∧ Cond.instanceMethod q.1 ∈ tables_1
theorem lw_p0 : lw_okq (⟨"SnakeRoll", "found", "(I)I"⟩, 8) := ⟨⟨by decide +kernel, by decide +kernel⟩, List.mem_of_getElem? (i := 12) (by decide +kernel), List.mem_of_getElem? (i := 270) (by decide +kernel), List.mem_of_getElem? (i := 271) (by decide +kernel)⟩
theorem lw_p1 : lw_okq (⟨"SnakeRoll", "fine", "(I)I"⟩, 8) := ⟨⟨by decide +kernel, by decide +kernel⟩, List.mem_of_getElem? (i := 12) (by decide +kernel), List.mem_of_getElem? (i := 279) (by decide +kernel), List.mem_of_getElem? (i := 280) (by decide +kernel)⟩
theorem lw_p2 : lw_okq (⟨"SnakeRoll", "wrongPlace", "(III)I"⟩, 8) := ⟨⟨by decide +kernel, by decide +kernel⟩, List.mem_of_getElem? (i := 12) (by decide +kernel), List.mem_of_getElem? (i := 287) (by decide +kernel), List.mem_of_getElem? (i := 288) (by decide +kernel)⟩
theorem lw_p3 : lw_okq (⟨"SnakeRoll$Reader", "goOn", "()V"⟩, 8) := ⟨⟨by decide +kernel, by decide +kernel⟩, List.mem_of_getElem? (i := 109) (by decide +kernel), List.mem_of_getElem? (i := 331) (by decide +kernel), List.mem_of_getElem? (i := 332) (by decide +kernel)⟩
theorem lw_p4 : lw_okq (⟨"SnakeRoll$Reader", "takeNumber", "()V"⟩, 8) := ⟨⟨by decide +kernel, by decide +kernel⟩, List.mem_of_getElem? (i := 109) (by decide +kernel), List.mem_of_getElem? (i := 338) (by decide +kernel), List.mem_of_getElem? (i := 339) (by decide +kernel)⟩
theorem lw_p5 : lw_okq (⟨"SnakeRoll$Reader", "readPart", "(II)I"⟩, 8) := ⟨⟨by decide +kernel, by decide +kernel⟩, List.mem_of_getElem? (i := 109) (by decide +kernel), List.mem_of_getElem? (i := 348) (by decide +kernel), List.mem_of_getElem? (i := 349) (by decide +kernel)⟩
theorem lw_p6 : lw_okq (⟨"SnakeRoll$Reader", "isFull", "(I)Z"⟩, 8) := ⟨⟨by decide +kernel, by decide +kernel⟩, List.mem_of_getElem? (i := 109) (by decide +kernel), List.mem_of_getElem? (i := 352) (by decide +kernel), List.mem_of_getElem? (i := 353) (by decide +kernel)⟩
theorem lw_p7 : lw_okq (⟨"SnakeRoll$Reader", "limit", "(I)I"⟩, 8) := ⟨⟨by decide +kernel, by decide +kernel⟩, List.mem_of_getElem? (i := 109) (by decide +kernel), List.mem_of_getElem? (i := 356) (by decide +kernel), List.mem_of_getElem? (i := 357) (by decide +kernel)⟩
theorem lw_p8 : lw_okq (⟨"SnakeRoll$Reader", "add", "(II)V"⟩, 8) := ⟨⟨by decide +kernel, by decide +kernel⟩, List.mem_of_getElem? (i := 109) (by decide +kernel), List.mem_of_getElem? (i := 360) (by decide +kernel), List.mem_of_getElem? (i := 361) (by decide +kernel)⟩
theorem lw_p9 : lw_okq (⟨"SnakeRoll", "noSchool", "()Z"⟩, 8) := ⟨⟨by decide +kernel, by decide +kernel⟩, List.mem_of_getElem? (i := 12) (by decide +kernel), List.mem_of_getElem? (i := 388) (by decide +kernel), List.mem_of_getElem? (i := 389) (by decide +kernel)⟩
theorem lw_p10 : lw_okq (⟨"SnakeRoll$School", "learnByGrasp", "(II)V"⟩, 11) := ⟨⟨by decide +kernel, by decide +kernel⟩, List.mem_of_getElem? (i := 22) (by decide +kernel), List.mem_of_getElem? (i := 419) (by decide +kernel), List.mem_of_getElem? (i := 420) (by decide +kernel)⟩
theorem lw_p11 : lw_okq (⟨"SnakeRoll$School", "learnOnwards", "(II)V"⟩, 11) := ⟨⟨by decide +kernel, by decide +kernel⟩, List.mem_of_getElem? (i := 22) (by decide +kernel), List.mem_of_getElem? (i := 423) (by decide +kernel), List.mem_of_getElem? (i := 424) (by decide +kernel)⟩
theorem lw_p12 : lw_okq (⟨"SnakeRoll$School", "learnAsSnake", "(II)V"⟩, 11) := ⟨⟨by decide +kernel, by decide +kernel⟩, List.mem_of_getElem? (i := 22) (by decide +kernel), List.mem_of_getElem? (i := 427) (by decide +kernel), List.mem_of_getElem? (i := 428) (by decide +kernel)⟩
theorem lw_p13 : lw_okq (⟨"SnakeRoll", "noPupil", "(I)Z"⟩, 8) := ⟨⟨by decide +kernel, by decide +kernel⟩, List.mem_of_getElem? (i := 12) (by decide +kernel), List.mem_of_getElem? (i := 453) (by decide +kernel), List.mem_of_getElem? (i := 454) (by decide +kernel)⟩
theorem lw_p14 : lw_okq (⟨"SnakeRoll", "noLesson", "(I)Z"⟩, 8) := ⟨⟨by decide +kernel, by decide +kernel⟩, List.mem_of_getElem? (i := 12) (by decide +kernel), List.mem_of_getElem? (i := 469) (by decide +kernel), List.mem_of_getElem? (i := 470) (by decide +kernel)⟩
theorem lw_p15 : lw_okq (⟨"SnakeRoll", "noSubject", "(I)Z"⟩, 8) := ⟨⟨by decide +kernel, by decide +kernel⟩, List.mem_of_getElem? (i := 12) (by decide +kernel), List.mem_of_getElem? (i := 473) (by decide +kernel), List.mem_of_getElem? (i := 474) (by decide +kernel)⟩
def lw_privs_1 : List (MethodName × Nat) := [(⟨"SnakeRoll", "found", "(I)I"⟩, 8), (⟨"SnakeRoll", "fine", "(I)I"⟩, 8), (⟨"SnakeRoll", "wrongPlace", "(III)I"⟩, 8), (⟨"SnakeRoll$Reader", "goOn", "()V"⟩, 8), (⟨"SnakeRoll$Reader", "takeNumber", "()V"⟩, 8), (⟨"SnakeRoll$Reader", "readPart", "(II)I"⟩, 8), (⟨"SnakeRoll$Reader", "isFull", "(I)Z"⟩, 8), (⟨"SnakeRoll$Reader", "limit", "(I)I"⟩, 8), (⟨"SnakeRoll$Reader", "add", "(II)V"⟩, 8), (⟨"SnakeRoll", "noSchool", "()Z"⟩, 8), (⟨"SnakeRoll$School", "learnByGrasp", "(II)V"⟩, 11), (⟨"SnakeRoll$School", "learnOnwards", "(II)V"⟩, 11), (⟨"SnakeRoll$School", "learnAsSnake", "(II)V"⟩, 11), (⟨"SnakeRoll", "noPupil", "(I)Z"⟩, 8), (⟨"SnakeRoll", "noLesson", "(I)Z"⟩, 8), (⟨"SnakeRoll", "noSubject", "(I)Z"⟩, 8)]
theorem lw_r1 : ∀ q ∈ lw_privs_1, lw_okq q := List.forall_mem_cons.mpr ⟨lw_p0, List.forall_mem_cons.mpr ⟨lw_p1, List.forall_mem_cons.mpr ⟨lw_p2, List.forall_mem_cons.mpr ⟨lw_p3, List.forall_mem_cons.mpr ⟨lw_p4, List.forall_mem_cons.mpr ⟨lw_p5, List.forall_mem_cons.mpr ⟨lw_p6, List.forall_mem_cons.mpr ⟨lw_p7, List.forall_mem_cons.mpr ⟨lw_p8, List.forall_mem_cons.mpr ⟨lw_p9, List.forall_mem_cons.mpr ⟨lw_p10, List.forall_mem_cons.mpr ⟨lw_p11, List.forall_mem_cons.mpr ⟨lw_p12, List.forall_mem_cons.mpr ⟨lw_p13, List.forall_mem_cons.mpr ⟨lw_p14, List.forall_mem_cons.mpr ⟨lw_p15, fun _ h => absurd h List.not_mem_nil⟩⟩⟩⟩⟩⟩⟩⟩⟩⟩⟩⟩⟩⟩⟩⟩
theorem lw_p16 : lw_okq (⟨"SnakeRoll$Foretelling", "weigh", "(I)V"⟩, 8) := ⟨⟨by decide +kernel, by decide +kernel⟩, List.mem_of_getElem? (i := 146) (by decide +kernel), List.mem_of_getElem? (i := 583) (by decide +kernel), List.mem_of_getElem? (i := 584) (by decide +kernel)⟩
theorem lw_p17 : lw_okq (⟨"SnakeRoll$Foretelling", "goThrough", "(II)I"⟩, 8) := ⟨⟨by decide +kernel, by decide +kernel⟩, List.mem_of_getElem? (i := 146) (by decide +kernel), List.mem_of_getElem? (i := 589) (by decide +kernel), List.mem_of_getElem? (i := 590) (by decide +kernel)⟩
theorem lw_p18 : lw_okq (⟨"SnakeRoll$Foretelling", "knownExchanged", "(LSnakeRoll$School;III)I"⟩, 8) := ⟨⟨by decide +kernel, by decide +kernel⟩, List.mem_of_getElem? (i := 146) (by decide +kernel), List.mem_of_getElem? (i := 610) (by decide +kernel), List.mem_of_getElem? (i := 611) (by decide +kernel)⟩
theorem lw_p19 : lw_okq (⟨"SnakeRoll$School", "tellsApart", "(I)Z"⟩, 11) := ⟨⟨by decide +kernel, by decide +kernel⟩, List.mem_of_getElem? (i := 22) (by decide +kernel), List.mem_of_getElem? (i := 626) (by decide +kernel), List.mem_of_getElem? (i := 627) (by decide +kernel)⟩
theorem lw_p20 : lw_okq (⟨"SnakeRoll$Foretelling", "fits", "(I)I"⟩, 8) := ⟨⟨by decide +kernel, by decide +kernel⟩, List.mem_of_getElem? (i := 146) (by decide +kernel), List.mem_of_getElem? (i := 658) (by decide +kernel), List.mem_of_getElem? (i := 659) (by decide +kernel)⟩
theorem lw_p21 : lw_okq (⟨"SnakeRoll$Foretelling", "knownDespite", "(LSnakeRoll$School;IIII)Z"⟩, 8) := ⟨⟨by decide +kernel, by decide +kernel⟩, List.mem_of_getElem? (i := 146) (by decide +kernel), List.mem_of_getElem? (i := 694) (by decide +kernel), List.mem_of_getElem? (i := 695) (by decide +kernel)⟩
theorem lw_p22 : lw_okq (⟨"SnakeRoll$Foretelling", "drawOnce", "(J)V"⟩, 8) := ⟨⟨by decide +kernel, by decide +kernel⟩, List.mem_of_getElem? (i := 146) (by decide +kernel), List.mem_of_getElem? (i := 714) (by decide +kernel), List.mem_of_getElem? (i := 715) (by decide +kernel)⟩
theorem lw_p23 : lw_okq (⟨"SnakeRoll$Asking", "leave", "(I)V"⟩, 7) := ⟨⟨by decide +kernel, by decide +kernel⟩, List.mem_of_getElem? (i := 181) (by decide +kernel), List.mem_of_getElem? (i := 756) (by decide +kernel), List.mem_of_getElem? (i := 757) (by decide +kernel)⟩
theorem lw_p24 : lw_okq (⟨"SnakeRoll", "rowsThere", "()I"⟩, 8) := ⟨⟨by decide +kernel, by decide +kernel⟩, List.mem_of_getElem? (i := 12) (by decide +kernel), List.mem_of_getElem? (i := 768) (by decide +kernel), List.mem_of_getElem? (i := 769) (by decide +kernel)⟩
theorem lw_p25 : lw_okq (⟨"SnakeRollModel", "finding", "(I)I"⟩, 26) := ⟨⟨by decide +kernel, by decide +kernel⟩, List.mem_of_getElem? (i := 776) (by decide +kernel), List.mem_of_getElem? (i := 875) (by decide +kernel), List.mem_of_getElem? (i := 876) (by decide +kernel)⟩
theorem lw_p26 : lw_okq (⟨"SnakeRollModel", "begin", "()V"⟩, 26) := ⟨⟨by decide +kernel, by decide +kernel⟩, List.mem_of_getElem? (i := 776) (by decide +kernel), List.mem_of_getElem? (i := 906) (by decide +kernel), List.mem_of_getElem? (i := 907) (by decide +kernel)⟩
theorem lw_p27 : lw_okq (⟨"SnakeRollModel", "nextToken", "()V"⟩, 26) := ⟨⟨by decide +kernel, by decide +kernel⟩, List.mem_of_getElem? (i := 776) (by decide +kernel), List.mem_of_getElem? (i := 910) (by decide +kernel), List.mem_of_getElem? (i := 911) (by decide +kernel)⟩
theorem lw_p28 : lw_okq (⟨"SnakeRollModel", "isLetter", "(I)Z"⟩, 26) := ⟨⟨by decide +kernel, by decide +kernel⟩, List.mem_of_getElem? (i := 776) (by decide +kernel), List.mem_of_getElem? (i := 919) (by decide +kernel), List.mem_of_getElem? (i := 920) (by decide +kernel)⟩
theorem lw_p29 : lw_okq (⟨"SnakeRollModel", "must", "(Z)V"⟩, 26) := ⟨⟨by decide +kernel, by decide +kernel⟩, List.mem_of_getElem? (i := 776) (by decide +kernel), List.mem_of_getElem? (i := 923) (by decide +kernel), List.mem_of_getElem? (i := 924) (by decide +kernel)⟩
theorem lw_p30 : lw_okq (⟨"SnakeRollModel", "bad", "(I)V"⟩, 26) := ⟨⟨by decide +kernel, by decide +kernel⟩, List.mem_of_getElem? (i := 776) (by decide +kernel), List.mem_of_getElem? (i := 927) (by decide +kernel), List.mem_of_getElem? (i := 928) (by decide +kernel)⟩
theorem lw_p31 : lw_okq (⟨"SnakeRollModel", "number", "(II)I"⟩, 26) := ⟨⟨by decide +kernel, by decide +kernel⟩, List.mem_of_getElem? (i := 776) (by decide +kernel), List.mem_of_getElem? (i := 931) (by decide +kernel), List.mem_of_getElem? (i := 932) (by decide +kernel)⟩
def lw_privs_2 : List (MethodName × Nat) := [(⟨"SnakeRoll$Foretelling", "weigh", "(I)V"⟩, 8), (⟨"SnakeRoll$Foretelling", "goThrough", "(II)I"⟩, 8), (⟨"SnakeRoll$Foretelling", "knownExchanged", "(LSnakeRoll$School;III)I"⟩, 8), (⟨"SnakeRoll$School", "tellsApart", "(I)Z"⟩, 11), (⟨"SnakeRoll$Foretelling", "fits", "(I)I"⟩, 8), (⟨"SnakeRoll$Foretelling", "knownDespite", "(LSnakeRoll$School;IIII)Z"⟩, 8), (⟨"SnakeRoll$Foretelling", "drawOnce", "(J)V"⟩, 8), (⟨"SnakeRoll$Asking", "leave", "(I)V"⟩, 7), (⟨"SnakeRoll", "rowsThere", "()I"⟩, 8), (⟨"SnakeRollModel", "finding", "(I)I"⟩, 26), (⟨"SnakeRollModel", "begin", "()V"⟩, 26), (⟨"SnakeRollModel", "nextToken", "()V"⟩, 26), (⟨"SnakeRollModel", "isLetter", "(I)Z"⟩, 26), (⟨"SnakeRollModel", "must", "(Z)V"⟩, 26), (⟨"SnakeRollModel", "bad", "(I)V"⟩, 26), (⟨"SnakeRollModel", "number", "(II)I"⟩, 26)]
theorem lw_r2 : ∀ q ∈ lw_privs_2, lw_okq q := List.forall_mem_cons.mpr ⟨lw_p16, List.forall_mem_cons.mpr ⟨lw_p17, List.forall_mem_cons.mpr ⟨lw_p18, List.forall_mem_cons.mpr ⟨lw_p19, List.forall_mem_cons.mpr ⟨lw_p20, List.forall_mem_cons.mpr ⟨lw_p21, List.forall_mem_cons.mpr ⟨lw_p22, List.forall_mem_cons.mpr ⟨lw_p23, List.forall_mem_cons.mpr ⟨lw_p24, List.forall_mem_cons.mpr ⟨lw_p25, List.forall_mem_cons.mpr ⟨lw_p26, List.forall_mem_cons.mpr ⟨lw_p27, List.forall_mem_cons.mpr ⟨lw_p28, List.forall_mem_cons.mpr ⟨lw_p29, List.forall_mem_cons.mpr ⟨lw_p30, List.forall_mem_cons.mpr ⟨lw_p31, fun _ h => absurd h List.not_mem_nil⟩⟩⟩⟩⟩⟩⟩⟩⟩⟩⟩⟩⟩⟩⟩⟩
theorem lw_p32 : lw_okq (⟨"SnakeRollModel", "mustSign", "(I)V"⟩, 26) := ⟨⟨by decide +kernel, by decide +kernel⟩, List.mem_of_getElem? (i := 776) (by decide +kernel), List.mem_of_getElem? (i := 935) (by decide +kernel), List.mem_of_getElem? (i := 936) (by decide +kernel)⟩
theorem lw_p33 : lw_okq (⟨"SnakeRollModel", "readSubject", "()V"⟩, 26) := ⟨⟨by decide +kernel, by decide +kernel⟩, List.mem_of_getElem? (i := 776) (by decide +kernel), List.mem_of_getElem? (i := 939) (by decide +kernel), List.mem_of_getElem? (i := 940) (by decide +kernel)⟩
theorem lw_p34 : lw_okq (⟨"SnakeRollModel", "readLesson", "()V"⟩, 26) := ⟨⟨by decide +kernel, by decide +kernel⟩, List.mem_of_getElem? (i := 776) (by decide +kernel), List.mem_of_getElem? (i := 943) (by decide +kernel), List.mem_of_getElem? (i := 944) (by decide +kernel)⟩
theorem lw_p35 : lw_okq (⟨"SnakeRollModel", "isSort", "()Z"⟩, 26) := ⟨⟨by decide +kernel, by decide +kernel⟩, List.mem_of_getElem? (i := 776) (by decide +kernel), List.mem_of_getElem? (i := 947) (by decide +kernel), List.mem_of_getElem? (i := 948) (by decide +kernel)⟩
theorem lw_p36 : lw_okq (⟨"SnakeRollModel", "readPupil", "()V"⟩, 26) := ⟨⟨by decide +kernel, by decide +kernel⟩, List.mem_of_getElem? (i := 776) (by decide +kernel), List.mem_of_getElem? (i := 954) (by decide +kernel), List.mem_of_getElem? (i := 955) (by decide +kernel)⟩
theorem lw_p37 : lw_okq (⟨"SnakeRollModel", "failed", "()Z"⟩, 26) := ⟨⟨by decide +kernel, by decide +kernel⟩, List.mem_of_getElem? (i := 776) (by decide +kernel), List.mem_of_getElem? (i := 958) (by decide +kernel), List.mem_of_getElem? (i := 959) (by decide +kernel)⟩
theorem lw_p38 : lw_okq (⟨"SnakeRollModel", "isThere", "()Z"⟩, 26) := ⟨⟨by decide +kernel, by decide +kernel⟩, List.mem_of_getElem? (i := 776) (by decide +kernel), List.mem_of_getElem? (i := 967) (by decide +kernel), List.mem_of_getElem? (i := 968) (by decide +kernel)⟩
theorem lw_p39 : lw_okq (⟨"SnakeRollModel", "keep", "()V"⟩, 26) := ⟨⟨by decide +kernel, by decide +kernel⟩, List.mem_of_getElem? (i := 776) (by decide +kernel), List.mem_of_getElem? (i := 973) (by decide +kernel), List.mem_of_getElem? (i := 974) (by decide +kernel)⟩
theorem lw_p40 : lw_okq (⟨"SnakeRollModel", "dayBy", "([IZ)V"⟩, 26) := ⟨⟨by decide +kernel, by decide +kernel⟩, List.mem_of_getElem? (i := 776) (by decide +kernel), List.mem_of_getElem? (i := 977) (by decide +kernel), List.mem_of_getElem? (i := 978) (by decide +kernel)⟩
theorem lw_p41 : lw_okq (⟨"SnakeRollModel", "isPupil", "(I)Z"⟩, 26) := ⟨⟨by decide +kernel, by decide +kernel⟩, List.mem_of_getElem? (i := 776) (by decide +kernel), List.mem_of_getElem? (i := 1015) (by decide +kernel), List.mem_of_getElem? (i := 1016) (by decide +kernel)⟩
theorem lw_p42 : lw_okq (⟨"SnakeRollModel", "isLesson", "(I)Z"⟩, 26) := ⟨⟨by decide +kernel, by decide +kernel⟩, List.mem_of_getElem? (i := 776) (by decide +kernel), List.mem_of_getElem? (i := 1026) (by decide +kernel), List.mem_of_getElem? (i := 1027) (by decide +kernel)⟩
theorem lw_p43 : lw_okq (⟨"SnakeRollModel", "isSubject", "(I)Z"⟩, 26) := ⟨⟨by decide +kernel, by decide +kernel⟩, List.mem_of_getElem? (i := 776) (by decide +kernel), List.mem_of_getElem? (i := 1030) (by decide +kernel), List.mem_of_getElem? (i := 1031) (by decide +kernel)⟩
theorem lw_p44 : lw_okq (⟨"SnakeRollModel", "turned", "(IIZ)I"⟩, 26) := ⟨⟨by decide +kernel, by decide +kernel⟩, List.mem_of_getElem? (i := 776) (by decide +kernel), List.mem_of_getElem? (i := 1038) (by decide +kernel), List.mem_of_getElem? (i := 1039) (by decide +kernel)⟩
theorem lw_p45 : lw_okq (⟨"SnakeRollModel", "graspable", "(I)I"⟩, 26) := ⟨⟨by decide +kernel, by decide +kernel⟩, List.mem_of_getElem? (i := 776) (by decide +kernel), List.mem_of_getElem? (i := 1054) (by decide +kernel), List.mem_of_getElem? (i := 1055) (by decide +kernel)⟩
theorem lw_p46 : lw_okq (⟨"SnakeRollModel", "layThen", "()V"⟩, 26) := ⟨⟨by decide +kernel, by decide +kernel⟩, List.mem_of_getElem? (i := 776) (by decide +kernel), List.mem_of_getElem? (i := 1075) (by decide +kernel), List.mem_of_getElem? (i := 1076) (by decide +kernel)⟩
theorem lw_p47 : lw_okq (⟨"SnakeRollModel", "daysOf", "([II)V"⟩, 26) := ⟨⟨by decide +kernel, by decide +kernel⟩, List.mem_of_getElem? (i := 776) (by decide +kernel), List.mem_of_getElem? (i := 1079) (by decide +kernel), List.mem_of_getElem? (i := 1080) (by decide +kernel)⟩
def lw_privs_3 : List (MethodName × Nat) := [(⟨"SnakeRollModel", "mustSign", "(I)V"⟩, 26), (⟨"SnakeRollModel", "readSubject", "()V"⟩, 26), (⟨"SnakeRollModel", "readLesson", "()V"⟩, 26), (⟨"SnakeRollModel", "isSort", "()Z"⟩, 26), (⟨"SnakeRollModel", "readPupil", "()V"⟩, 26), (⟨"SnakeRollModel", "failed", "()Z"⟩, 26), (⟨"SnakeRollModel", "isThere", "()Z"⟩, 26), (⟨"SnakeRollModel", "keep", "()V"⟩, 26), (⟨"SnakeRollModel", "dayBy", "([IZ)V"⟩, 26), (⟨"SnakeRollModel", "isPupil", "(I)Z"⟩, 26), (⟨"SnakeRollModel", "isLesson", "(I)Z"⟩, 26), (⟨"SnakeRollModel", "isSubject", "(I)Z"⟩, 26), (⟨"SnakeRollModel", "turned", "(IIZ)I"⟩, 26), (⟨"SnakeRollModel", "graspable", "(I)I"⟩, 26), (⟨"SnakeRollModel", "layThen", "()V"⟩, 26), (⟨"SnakeRollModel", "daysOf", "([II)V"⟩, 26)]
theorem lw_r3 : ∀ q ∈ lw_privs_3, lw_okq q := List.forall_mem_cons.mpr ⟨lw_p32, List.forall_mem_cons.mpr ⟨lw_p33, List.forall_mem_cons.mpr ⟨lw_p34, List.forall_mem_cons.mpr ⟨lw_p35, List.forall_mem_cons.mpr ⟨lw_p36, List.forall_mem_cons.mpr ⟨lw_p37, List.forall_mem_cons.mpr ⟨lw_p38, List.forall_mem_cons.mpr ⟨lw_p39, List.forall_mem_cons.mpr ⟨lw_p40, List.forall_mem_cons.mpr ⟨lw_p41, List.forall_mem_cons.mpr ⟨lw_p42, List.forall_mem_cons.mpr ⟨lw_p43, List.forall_mem_cons.mpr ⟨lw_p44, List.forall_mem_cons.mpr ⟨lw_p45, List.forall_mem_cons.mpr ⟨lw_p46, List.forall_mem_cons.mpr ⟨lw_p47, fun _ h => absurd h List.not_mem_nil⟩⟩⟩⟩⟩⟩⟩⟩⟩⟩⟩⟩⟩⟩⟩⟩
theorem lw_p48 : lw_okq (⟨"SnakeRollModel", "needed", "(II)I"⟩, 26) := ⟨⟨by decide +kernel, by decide +kernel⟩, List.mem_of_getElem? (i := 776) (by decide +kernel), List.mem_of_getElem? (i := 1102) (by decide +kernel), List.mem_of_getElem? (i := 1103) (by decide +kernel)⟩
theorem lw_p49 : lw_okq (⟨"SnakeRollModel", "nextOrder", "(I)Z"⟩, 26) := ⟨⟨by decide +kernel, by decide +kernel⟩, List.mem_of_getElem? (i := 776) (by decide +kernel), List.mem_of_getElem? (i := 1115) (by decide +kernel), List.mem_of_getElem? (i := 1116) (by decide +kernel)⟩
theorem lw_p50 : lw_okq (⟨"SnakeRollModel", "tellsApart", "(I)Z"⟩, 26) := ⟨⟨by decide +kernel, by decide +kernel⟩, List.mem_of_getElem? (i := 776) (by decide +kernel), List.mem_of_getElem? (i := 1128) (by decide +kernel), List.mem_of_getElem? (i := 1129) (by decide +kernel)⟩
theorem lw_p51 : lw_okq (⟨"SnakeRollModel", "rowFound", "(III)I"⟩, 26) := ⟨⟨by decide +kernel, by decide +kernel⟩, List.mem_of_getElem? (i := 776) (by decide +kernel), List.mem_of_getElem? (i := 1147) (by decide +kernel), List.mem_of_getElem? (i := 1148) (by decide +kernel)⟩
theorem lw_p52 : lw_okq (⟨"SnakeRollModel", "isSo", "(III)Z"⟩, 26) := ⟨⟨by decide +kernel, by decide +kernel⟩, List.mem_of_getElem? (i := 776) (by decide +kernel), List.mem_of_getElem? (i := 1151) (by decide +kernel), List.mem_of_getElem? (i := 1152) (by decide +kernel)⟩
theorem lw_p53 : lw_okq (⟨"SnakeRollModel", "sizeOf", "(I)I"⟩, 26) := ⟨⟨by decide +kernel, by decide +kernel⟩, List.mem_of_getElem? (i := 776) (by decide +kernel), List.mem_of_getElem? (i := 1199) (by decide +kernel), List.mem_of_getElem? (i := 1200) (by decide +kernel)⟩
theorem lw_p54 : lw_okq (⟨"SnakeRollModel", "snakeSize", "(I)I"⟩, 26) := ⟨⟨by decide +kernel, by decide +kernel⟩, List.mem_of_getElem? (i := 776) (by decide +kernel), List.mem_of_getElem? (i := 1203) (by decide +kernel), List.mem_of_getElem? (i := 1204) (by decide +kernel)⟩
theorem lw_p55 : lw_okq (⟨"SnakeRollModel", "began", "(I)V"⟩, 26) := ⟨⟨by decide +kernel, by decide +kernel⟩, List.mem_of_getElem? (i := 776) (by decide +kernel), List.mem_of_getElem? (i := 1207) (by decide +kernel), List.mem_of_getElem? (i := 1208) (by decide +kernel)⟩
theorem lw_p56 : lw_okq (⟨"SnakeRollModel", "plainSize", "(I)I"⟩, 26) := ⟨⟨by decide +kernel, by decide +kernel⟩, List.mem_of_getElem? (i := 776) (by decide +kernel), List.mem_of_getElem? (i := 1211) (by decide +kernel), List.mem_of_getElem? (i := 1212) (by decide +kernel)⟩
theorem lw_p57 : lw_okq (⟨"SnakeRollModel", "markOf", "(I)I"⟩, 26) := ⟨⟨by decide +kernel, by decide +kernel⟩, List.mem_of_getElem? (i := 776) (by decide +kernel), List.mem_of_getElem? (i := 1215) (by decide +kernel), List.mem_of_getElem? (i := 1216) (by decide +kernel)⟩
def lw_privs_4 : List (MethodName × Nat) := [(⟨"SnakeRollModel", "needed", "(II)I"⟩, 26), (⟨"SnakeRollModel", "nextOrder", "(I)Z"⟩, 26), (⟨"SnakeRollModel", "tellsApart", "(I)Z"⟩, 26), (⟨"SnakeRollModel", "rowFound", "(III)I"⟩, 26), (⟨"SnakeRollModel", "isSo", "(III)Z"⟩, 26), (⟨"SnakeRollModel", "sizeOf", "(I)I"⟩, 26), (⟨"SnakeRollModel", "snakeSize", "(I)I"⟩, 26), (⟨"SnakeRollModel", "began", "(I)V"⟩, 26), (⟨"SnakeRollModel", "plainSize", "(I)I"⟩, 26), (⟨"SnakeRollModel", "markOf", "(I)I"⟩, 26)]
theorem lw_r4 : ∀ q ∈ lw_privs_4, lw_okq q := List.forall_mem_cons.mpr ⟨lw_p48, List.forall_mem_cons.mpr ⟨lw_p49, List.forall_mem_cons.mpr ⟨lw_p50, List.forall_mem_cons.mpr ⟨lw_p51, List.forall_mem_cons.mpr ⟨lw_p52, List.forall_mem_cons.mpr ⟨lw_p53, List.forall_mem_cons.mpr ⟨lw_p54, List.forall_mem_cons.mpr ⟨lw_p55, List.forall_mem_cons.mpr ⟨lw_p56, List.forall_mem_cons.mpr ⟨lw_p57, fun _ h => absurd h List.not_mem_nil⟩⟩⟩⟩⟩⟩⟩⟩⟩⟩
def lw_privs : List (MethodName × Nat) := lw_privs_1 ++ (lw_privs_2 ++ (lw_privs_3 ++ (lw_privs_4)))
def lw_tbl : List Cond := k2_sels lw_privs ++ tables_1
theorem lw_privs_ok : ∀ q ∈ lw_privs, lw_okq q := by
  show ∀ q ∈ lw_privs_1 ++ (lw_privs_2 ++ (lw_privs_3 ++ (lw_privs_4))), lw_okq q
  exact List.forall_mem_append.mpr ⟨lw_r1, List.forall_mem_append.mpr ⟨lw_r2, List.forall_mem_append.mpr ⟨lw_r3, lw_r4⟩⟩⟩
-- ===== end of PART A; then your names; then what follows =====
end
section
/-! ===== BEGIN printed: names, fields, word lists, decode rows ===== -/
def RX0 : String := "SnakeRoll$Acts"
def TX0 : u_T := fun k => match k with
  | 0 => ("SnakeRoll$Acts", "before", "[LSnakeRoll$School;", true)
  | 1 => ("SnakeRoll$Acts", "latest", "I", false)
  | _ => ("SnakeRoll$Acts", "kept", "I", false)
def tyX0 : Nat → FieldType := fun k => match k with
  | 0 => .array (.object "SnakeRoll$School")
  | 1 => .int
  | _ => .int
abbrev wsX00 : List Cond := u_ws RX0 TX0 3
theorem nmX0 : ∀ a, a < 3 → ∀ b, b < 3 → a ≠ b → (TX0 a).2.1 ≠ (TX0 b).2.1 := by decide +kernel
theorem tyX0_ok : ∀ k, k < 3 → parseFieldDescriptor (TX0 k).2.2.1 = some (tyX0 k) := by decide +kernel
abbrev cX0_init : ByteArray := prog_2_method_1_code
def yX0_init : MethodName := ⟨RX0, "<init>", "()V"⟩
abbrev cX0_keep : ByteArray := prog_2_method_2_code
def yX0_keep : MethodName := ⟨RX0, "keep", "(LSnakeRoll$School;)V"⟩
abbrev cX0_takeBack : ByteArray := prog_2_method_3_code
def yX0_takeBack : MethodName := ⟨RX0, "takeBack", "(LSnakeRoll$School;)Z"⟩
def RX1 : String := "SnakeRoll$Asking"
def TX1 : u_T := fun k => match k with
  | 0 => ("SnakeRoll$Asking", "bodies", "[I", true)
  | 1 => ("SnakeRoll$Asking", "left", "I", false)
  | 2 => ("SnakeRoll$Asking", "number", "I", false)
  | 3 => ("SnakeRoll$Asking", "seat", "I", false)
  | 4 => ("SnakeRoll$Asking", "form", "I", false)
  | 5 => ("SnakeRoll$Asking", "sizeBody", "I", false)
  | _ => ("SnakeRoll$Asking", "markBody", "I", false)
def tyX1 : Nat → FieldType := fun k => match k with
  | 0 => .array .int
  | 1 => .int
  | 2 => .int
  | 3 => .int
  | 4 => .int
  | 5 => .int
  | _ => .int
abbrev wsX10 : List Cond := u_ws RX1 TX1 7
theorem nmX1 : ∀ a, a < 7 → ∀ b, b < 7 → a ≠ b → (TX1 a).2.1 ≠ (TX1 b).2.1 := by decide +kernel
theorem tyX1_ok : ∀ k, k < 7 → parseFieldDescriptor (TX1 k).2.2.1 = some (tyX1 k) := by decide +kernel
abbrev cX1_init : ByteArray := prog_3_method_1_code
def yX1_init : MethodName := ⟨RX1, "<init>", "()V"⟩
abbrev cX1_answer : ByteArray := prog_3_method_2_code
def yX1_answer : MethodName := ⟨RX1, "answer", "(LSnakeRoll$School;II)I"⟩
abbrev cX1_begin : ByteArray := prog_3_method_3_code
def yX1_begin : MethodName := ⟨RX1, "begin", "(LSnakeRoll$Asking;II)I"⟩
abbrev cX1_leave : ByteArray := prog_3_method_4_code
def yX1_leave : MethodName := ⟨RX1, "leave", "(I)V"⟩
def RX2 : String := "SnakeRoll$Foretelling"
def TX2 : u_T := fun k => match k with
  | 0 => ("SnakeRoll$Foretelling", "work", "LSnakeRoll$School;", true)
  | 1 => ("SnakeRoll$Foretelling", "from", "LSnakeRoll$School;", false)
  | 2 => ("SnakeRoll$Foretelling", "days", "I", false)
  | 3 => ("SnakeRoll$Foretelling", "most", "I", false)
  | 4 => ("SnakeRoll$Foretelling", "best", "[I", true)
  | 5 => ("SnakeRoll$Foretelling", "trying", "[I", true)
  | 6 => ("SnakeRoll$Foretelling", "told", "LSnakeRoll$Row;", false)
  | _ => ("SnakeRoll$Foretelling", "toldFrom", "I", false)
def tyX2 : Nat → FieldType := fun k => match k with
  | 0 => .object "SnakeRoll$School"
  | 1 => .object "SnakeRoll$School"
  | 2 => .int
  | 3 => .int
  | 4 => .array .int
  | 5 => .array .int
  | 6 => .object "SnakeRoll$Row"
  | _ => .int
abbrev wsX20 : List Cond := u_ws RX2 TX2 8
theorem nmX2 : ∀ a, a < 8 → ∀ b, b < 8 → a ≠ b → (TX2 a).2.1 ≠ (TX2 b).2.1 := by decide +kernel
theorem tyX2_ok : ∀ k, k < 8 → parseFieldDescriptor (TX2 k).2.2.1 = some (tyX2 k) := by decide +kernel
abbrev cX2_init : ByteArray := prog_4_method_1_code
def yX2_init : MethodName := ⟨RX2, "<init>", "()V"⟩
abbrev cX2_after : ByteArray := prog_4_method_2_code
def yX2_after : MethodName := ⟨RX2, "after", "(LSnakeRoll$School;I)LSnakeRoll$School;"⟩
abbrev cX2_firstKnown : ByteArray := prog_4_method_3_code
def yX2_firstKnown : MethodName := ⟨RX2, "firstKnown", "(LSnakeRoll$School;II)I"⟩
abbrev cX2_seatBest : ByteArray := prog_4_method_4_code
def yX2_seatBest : MethodName := ⟨RX2, "seatBest", "(LSnakeRoll$School;I)V"⟩
abbrev cX2_fillSeat : ByteArray := prog_4_method_5_code
def yX2_fillSeat : MethodName := ⟨RX2, "fillSeat", "(LSnakeRoll$Foretelling;IIII)V"⟩
abbrev cX2_weigh : ByteArray := prog_4_method_6_code
def yX2_weigh : MethodName := ⟨RX2, "weigh", "(I)V"⟩
abbrev cX2_goThrough : ByteArray := prog_4_method_7_code
def yX2_goThrough : MethodName := ⟨RX2, "goThrough", "(II)I"⟩
abbrev cX2_bestExchange : ByteArray := prog_4_method_8_code
def yX2_bestExchange : MethodName := ⟨RX2, "bestExchange", "(LSnakeRoll$School;I)I"⟩
abbrev cX2_knownExchanged : ByteArray := prog_4_method_9_code
def yX2_knownExchanged : MethodName := ⟨RX2, "knownExchanged", "(LSnakeRoll$School;III)I"⟩
abbrev cX2_believe : ByteArray := prog_4_method_10_code
def yX2_believe : MethodName := ⟨RX2, "believe", "(LSnakeRoll$Row;II)V"⟩
abbrev cX2_kindsThatFit : ByteArray := prog_4_method_11_code
def yX2_kindsThatFit : MethodName := ⟨RX2, "kindsThatFit", "(LSnakeRoll$School;I)I"⟩
abbrev cX2_seatsThatFit : ByteArray := prog_4_method_12_code
def yX2_seatsThatFit : MethodName := ⟨RX2, "seatsThatFit", "(LSnakeRoll$School;I)I"⟩
abbrev cX2_subjectsThatFit : ByteArray := prog_4_method_13_code
def yX2_subjectsThatFit : MethodName := ⟨RX2, "subjectsThatFit", "(LSnakeRoll$School;II)I"⟩
abbrev cX2_reachesThatFit : ByteArray := prog_4_method_14_code
def yX2_reachesThatFit : MethodName := ⟨RX2, "reachesThatFit", "(LSnakeRoll$School;I)I"⟩
abbrev cX2_fits : ByteArray := prog_4_method_15_code
def yX2_fits : MethodName := ⟨RX2, "fits", "(I)I"⟩
abbrev cX2_casesKnown : ByteArray := prog_4_method_16_code
def yX2_casesKnown : MethodName := ⟨RX2, "casesKnown", "(LSnakeRoll$School;IIII)J"⟩
abbrev cX2_knownDespite : ByteArray := prog_4_method_17_code
def yX2_knownDespite : MethodName := ⟨RX2, "knownDespite", "(LSnakeRoll$School;IIII)Z"⟩
abbrev cX2_afterDraws : ByteArray := prog_4_method_18_code
def yX2_afterDraws : MethodName := ⟨RX2, "afterDraws", "(LSnakeRoll$School;II)LSnakeRoll$School;"⟩
abbrev cX2_drawOnce : ByteArray := prog_4_method_19_code
def yX2_drawOnce : MethodName := ⟨RX2, "drawOnce", "(J)V"⟩
def RX3 : String := "SnakeRoll$Reader"
def TX3 : u_T := fun k => match k with
  | 0 => ("SnakeRoll$Reader", "tape", "[I", true)
  | 1 => ("SnakeRoll$Reader", "read", "LSnakeRoll$School;", true)
  | 2 => ("SnakeRoll$Reader", "length", "I", false)
  | 3 => ("SnakeRoll$Reader", "fault", "I", false)
  | 4 => ("SnakeRoll$Reader", "token", "I", false)
  | 5 => ("SnakeRoll$Reader", "start", "I", false)
  | 6 => ("SnakeRoll$Reader", "value", "I", false)
  | _ => ("SnakeRoll$Reader", "next", "I", false)
def tyX3 : Nat → FieldType := fun k => match k with
  | 0 => .array .int
  | 1 => .object "SnakeRoll$School"
  | 2 => .int
  | 3 => .int
  | 4 => .int
  | 5 => .int
  | 6 => .int
  | _ => .int
abbrev wsX30 : List Cond := u_ws RX3 TX3 8
theorem nmX3 : ∀ a, a < 8 → ∀ b, b < 8 → a ≠ b → (TX3 a).2.1 ≠ (TX3 b).2.1 := by decide +kernel
theorem tyX3_ok : ∀ k, k < 8 → parseFieldDescriptor (TX3 k).2.2.1 = some (tyX3 k) := by decide +kernel
abbrev cX3_init : ByteArray := prog_5_method_1_code
def yX3_init : MethodName := ⟨RX3, "<init>", "()V"⟩
abbrev cX3_take : ByteArray := prog_5_method_2_code
def yX3_take : MethodName := ⟨RX3, "take", "(I)Z"⟩
abbrev cX3_readTape : ByteArray := prog_5_method_3_code
def yX3_readTape : MethodName := ⟨RX3, "readTape", "()Z"⟩
abbrev cX3_readPart : ByteArray := prog_5_method_4_code
def yX3_readPart : MethodName := ⟨RX3, "readPart", "(II)I"⟩
abbrev cX3_partOf : ByteArray := prog_5_method_5_code
def yX3_partOf : MethodName := ⟨RX3, "partOf", "(I)I"⟩
abbrev cX3_kindOf : ByteArray := prog_5_method_6_code
def yX3_kindOf : MethodName := ⟨RX3, "kindOf", "(I)I"⟩
abbrev cX3_isFull : ByteArray := prog_5_method_7_code
def yX3_isFull : MethodName := ⟨RX3, "isFull", "(I)Z"⟩
abbrev cX3_limit : ByteArray := prog_5_method_8_code
def yX3_limit : MethodName := ⟨RX3, "limit", "(I)I"⟩
abbrev cX3_add : ByteArray := prog_5_method_9_code
def yX3_add : MethodName := ⟨RX3, "add", "(II)V"⟩
abbrev cX3_goOn : ByteArray := prog_5_method_10_code
def yX3_goOn : MethodName := ⟨RX3, "goOn", "()V"⟩
abbrev cX3_takeNumber : ByteArray := prog_5_method_11_code
def yX3_takeNumber : MethodName := ⟨RX3, "takeNumber", "()V"⟩
abbrev cX3_isFigure : ByteArray := prog_5_method_12_code
def yX3_isFigure : MethodName := ⟨RX3, "isFigure", "(I)Z"⟩
def RX4 : String := "SnakeRoll$Row"
def TX4 : u_T := fun k => match k with
  | 0 => ("SnakeRoll$Row", "items", "[I", true)
  | 1 => ("SnakeRoll$Row", "there", "Z", false)
  | 2 => ("SnakeRoll$Row", "lane", "I", false)
  | _ => ("SnakeRoll$Row", "size", "I", false)
def tyX4 : Nat → FieldType := fun k => match k with
  | 0 => .array .int
  | 1 => .boolean
  | 2 => .int
  | _ => .int
abbrev wsX40 : List Cond := u_ws RX4 TX4 4
theorem nmX4 : ∀ a, a < 4 → ∀ b, b < 4 → a ≠ b → (TX4 a).2.1 ≠ (TX4 b).2.1 := by decide +kernel
theorem tyX4_ok : ∀ k, k < 4 → parseFieldDescriptor (TX4 k).2.2.1 = some (tyX4 k) := by decide +kernel
abbrev cX4_init : ByteArray := prog_6_method_1_code
def yX4_init : MethodName := ⟨RX4, "<init>", "()V"⟩
abbrev cX4_begin : ByteArray := prog_6_method_2_code
def yX4_begin : MethodName := ⟨RX4, "begin", "(II)V"⟩
abbrev cX4_has : ByteArray := prog_6_method_3_code
def yX4_has : MethodName := ⟨RX4, "has", "(II)Z"⟩
abbrev cX4_put : ByteArray := prog_6_method_4_code
def yX4_put : MethodName := ⟨RX4, "put", "(II)I"⟩
def RX5 : String := "SnakeRoll$School"
def TX5 : u_T := fun k => match k with
  | 0 => ("SnakeRoll$School", "reach", "I", false)
  | 1 => ("SnakeRoll$School", "subjects", "I", false)
  | 2 => ("SnakeRoll$School", "lessons", "I", false)
  | 3 => ("SnakeRoll$School", "pupils", "I", false)
  | 4 => ("SnakeRoll$School", "day", "I", false)
  | 5 => ("SnakeRoll$School", "needs", "[I", true)
  | 6 => ("SnakeRoll$School", "plan", "[I", true)
  | 7 => ("SnakeRoll$School", "kinds", "[I", true)
  | 8 => ("SnakeRoll$School", "knows", "[I", true)
  | 9 => ("SnakeRoll$School", "order", "[I", true)
  | _ => ("SnakeRoll$School", "heard", "[I", true)
def tyX5 : Nat → FieldType := fun k => match k with
  | 0 => .int
  | 1 => .int
  | 2 => .int
  | 3 => .int
  | 4 => .int
  | 5 => .array .int
  | 6 => .array .int
  | 7 => .array .int
  | 8 => .array .int
  | 9 => .array .int
  | _ => .array .int
abbrev wsX50 : List Cond := u_ws RX5 TX5 11
theorem nmX5 : ∀ a, a < 11 → ∀ b, b < 11 → a ≠ b → (TX5 a).2.1 ≠ (TX5 b).2.1 := by decide +kernel
theorem tyX5_ok : ∀ k, k < 11 → parseFieldDescriptor (TX5 k).2.2.1 = some (tyX5 k) := by decide +kernel
abbrev cX5_init : ByteArray := prog_7_method_1_code
def yX5_init : MethodName := ⟨RX5, "<init>", "()V"⟩
abbrev cX5_become : ByteArray := prog_7_method_2_code
def yX5_become : MethodName := ⟨RX5, "become", "(LSnakeRoll$School;)V"⟩
abbrev cX5_empty : ByteArray := prog_7_method_3_code
def yX5_empty : MethodName := ⟨RX5, "empty", "()V"⟩
abbrev cX5_becomePupil : ByteArray := prog_7_method_4_code
def yX5_becomePupil : MethodName := ⟨RX5, "becomePupil", "(LSnakeRoll$School;I)V"⟩
abbrev cX5_taughtOn : ByteArray := prog_7_method_5_code
def yX5_taughtOn : MethodName := ⟨RX5, "taughtOn", "(I)I"⟩
abbrev cX5_timesHeard : ByteArray := prog_7_method_6_code
def yX5_timesHeard : MethodName := ⟨RX5, "timesHeard", "(II)I"⟩
abbrev cX5_knowsIt : ByteArray := prog_7_method_7_code
def yX5_knowsIt : MethodName := ⟨RX5, "knowsIt", "(II)Z"⟩
abbrev cX5_form : ByteArray := prog_7_method_8_code
def yX5_form : MethodName := ⟨RX5, "form", "(I)I"⟩
abbrev cX5_seatOf : ByteArray := prog_7_method_9_code
def yX5_seatOf : MethodName := ⟨RX5, "seatOf", "(I)I"⟩
abbrev cX5_swapSeats : ByteArray := prog_7_method_10_code
def yX5_swapSeats : MethodName := ⟨RX5, "swapSeats", "(II)V"⟩
abbrev cX5_swapLessons : ByteArray := prog_7_method_11_code
def yX5_swapLessons : MethodName := ⟨RX5, "swapLessons", "(II)V"⟩
abbrev cX5_hearsAnyway : ByteArray := prog_7_method_12_code
def yX5_hearsAnyway : MethodName := ⟨RX5, "hearsAnyway", "(II)Z"⟩
abbrev cX5_hears : ByteArray := prog_7_method_13_code
def yX5_hears : MethodName := ⟨RX5, "hears", "(I)Z"⟩
abbrev cX5_passDay : ByteArray := prog_7_method_14_code
def yX5_passDay : MethodName := ⟨RX5, "passDay", "()V"⟩
abbrev cX5_hearLesson : ByteArray := prog_7_method_15_code
def yX5_hearLesson : MethodName := ⟨RX5, "hearLesson", "(II)V"⟩
abbrev cX5_learnByGrasp : ByteArray := prog_7_method_16_code
def yX5_learnByGrasp : MethodName := ⟨RX5, "learnByGrasp", "(II)V"⟩
abbrev cX5_learnOnwards : ByteArray := prog_7_method_17_code
def yX5_learnOnwards : MethodName := ⟨RX5, "learnOnwards", "(II)V"⟩
abbrev cX5_learnAsSnake : ByteArray := prog_7_method_18_code
def yX5_learnAsSnake : MethodName := ⟨RX5, "learnAsSnake", "(II)V"⟩
abbrev cX5_known : ByteArray := prog_7_method_19_code
def yX5_known : MethodName := ⟨RX5, "known", "()I"⟩
abbrev cX5_knownByAll : ByteArray := prog_7_method_20_code
def yX5_knownByAll : MethodName := ⟨RX5, "knownByAll", "()I"⟩
abbrev cX5_knownByAny : ByteArray := prog_7_method_21_code
def yX5_knownByAny : MethodName := ⟨RX5, "knownByAny", "()I"⟩
abbrev cX5_graspable : ByteArray := prog_7_method_22_code
def yX5_graspable : MethodName := ⟨RX5, "graspable", "(I)I"⟩
abbrev cX5_closure : ByteArray := prog_7_method_23_code
def yX5_closure : MethodName := ⟨RX5, "closure", "(I)I"⟩
abbrev cX5_needed : ByteArray := prog_7_method_24_code
def yX5_needed : MethodName := ⟨RX5, "needed", "(II)I"⟩
abbrev cX5_bestPupil : ByteArray := prog_7_method_25_code
def yX5_bestPupil : MethodName := ⟨RX5, "bestPupil", "()I"⟩
abbrev cX5_alike : ByteArray := prog_7_method_26_code
def yX5_alike : MethodName := ⟨RX5, "alike", "(I)I"⟩
abbrev cX5_fewestQuestions : ByteArray := prog_7_method_27_code
def yX5_fewestQuestions : MethodName := ⟨RX5, "fewestQuestions", "()I"⟩
abbrev cX5_tellsApart : ByteArray := prog_7_method_28_code
def yX5_tellsApart : MethodName := ⟨RX5, "tellsApart", "(I)Z"⟩
def RX6 : String := "SnakeRoll"
def TX6 : u_T := fun k => match k with
  | 0 => ("SnakeRoll", "rows", "[LSnakeRoll$Row;", true)
  | 1 => ("SnakeRoll", "now", "LSnakeRoll$School;", true)
  | 2 => ("SnakeRoll", "images", "[LSnakeRoll$School;", true)
  | 3 => ("SnakeRoll", "acts", "LSnakeRoll$Acts;", true)
  | 4 => ("SnakeRoll", "reader", "LSnakeRoll$Reader;", true)
  | 5 => ("SnakeRoll", "foretelling", "LSnakeRoll$Foretelling;", true)
  | 6 => ("SnakeRoll", "asking", "LSnakeRoll$Asking;", true)
  | _ => ("SnakeRoll", "finding", "I", false)
def tyX6 : Nat → FieldType := fun k => match k with
  | 0 => .array (.object "SnakeRoll$Row")
  | 1 => .object "SnakeRoll$School"
  | 2 => .array (.object "SnakeRoll$School")
  | 3 => .object "SnakeRoll$Acts"
  | 4 => .object "SnakeRoll$Reader"
  | 5 => .object "SnakeRoll$Foretelling"
  | 6 => .object "SnakeRoll$Asking"
  | _ => .int
abbrev wsX60 : List Cond := u_ws RX6 TX6 8
theorem nmX6 : ∀ a, a < 8 → ∀ b, b < 8 → a ≠ b → (TX6 a).2.1 ≠ (TX6 b).2.1 := by decide +kernel
theorem tyX6_ok : ∀ k, k < 8 → parseFieldDescriptor (TX6 k).2.2.1 = some (tyX6 k) := by decide +kernel
abbrev cX6_init : ByteArray := prog_1_method_1_code
def yX6_init : MethodName := ⟨RX6, "<init>", "()V"⟩
abbrev cX6_row : ByteArray := prog_1_method_2_code
def yX6_row : MethodName := ⟨RX6, "row", "(III)I"⟩
abbrev cX6_set : ByteArray := prog_1_method_3_code
def yX6_set : MethodName := ⟨RX6, "set", "(III)I"⟩
abbrev cX6_copy : ByteArray := prog_1_method_4_code
def yX6_copy : MethodName := ⟨RX6, "copy", "(IIIII)I"⟩
abbrev cX6_drop : ByteArray := prog_1_method_5_code
def yX6_drop : MethodName := ⟨RX6, "drop", "(I)I"⟩
abbrev cX6_feed : ByteArray := prog_1_method_6_code
def yX6_feed : MethodName := ⟨RX6, "feed", "(I)I"⟩
abbrev cX6_school : ByteArray := prog_1_method_7_code
def yX6_school : MethodName := ⟨RX6, "school", "()I"⟩
abbrev cX6_fault : ByteArray := prog_1_method_8_code
def yX6_fault : MethodName := ⟨RX6, "fault", "()I"⟩
abbrev cX6_undo : ByteArray := prog_1_method_9_code
def yX6_undo : MethodName := ⟨RX6, "undo", "()I"⟩
abbrev cX6_days : ByteArray := prog_1_method_10_code
def yX6_days : MethodName := ⟨RX6, "days", "(I)I"⟩
abbrev cX6_change : ByteArray := prog_1_method_11_code
def yX6_change : MethodName := ⟨RX6, "change", "(II)I"⟩
abbrev cX6_teach : ByteArray := prog_1_method_12_code
def yX6_teach : MethodName := ⟨RX6, "teach", "(II)I"⟩
abbrev cX6_forget : ByteArray := prog_1_method_13_code
def yX6_forget : MethodName := ⟨RX6, "forget", "(II)I"⟩
abbrev cX6_tell : ByteArray := prog_1_method_14_code
def yX6_tell : MethodName := ⟨RX6, "tell", "(II)I"⟩
abbrev cX6_pupil : ByteArray := prog_1_method_15_code
def yX6_pupil : MethodName := ⟨RX6, "pupil", "(II)I"⟩
abbrev cX6_heard : ByteArray := prog_1_method_16_code
def yX6_heard : MethodName := ⟨RX6, "heard", "(II)I"⟩
abbrev cX6_subject : ByteArray := prog_1_method_17_code
def yX6_subject : MethodName := ⟨RX6, "subject", "(I)I"⟩
abbrev cX6_lesson : ByteArray := prog_1_method_18_code
def yX6_lesson : MethodName := ⟨RX6, "lesson", "(I)I"⟩
abbrev cX6_ahead : ByteArray := prog_1_method_19_code
def yX6_ahead : MethodName := ⟨RX6, "ahead", "(III)I"⟩
abbrev cX6_when : ByteArray := prog_1_method_20_code
def yX6_when : MethodName := ⟨RX6, "when", "(II)I"⟩
abbrev cX6_all : ByteArray := prog_1_method_21_code
def yX6_all : MethodName := ⟨RX6, "all", "(I)I"⟩
abbrev cX6_follows : ByteArray := prog_1_method_22_code
def yX6_follows : MethodName := ⟨RX6, "follows", "(I)I"⟩
abbrev cX6_lacks : ByteArray := prog_1_method_23_code
def yX6_lacks : MethodName := ⟨RX6, "lacks", "(II)I"⟩
abbrev cX6_shortest : ByteArray := prog_1_method_24_code
def yX6_shortest : MethodName := ⟨RX6, "shortest", "(III)I"⟩
abbrev cX6_seating : ByteArray := prog_1_method_25_code
def yX6_seating : MethodName := ⟨RX6, "seating", "(II)I"⟩
abbrev cX6_table : ByteArray := prog_1_method_26_code
def yX6_table : MethodName := ⟨RX6, "table", "(II)I"⟩
abbrev cX6_questions : ByteArray := prog_1_method_27_code
def yX6_questions : MethodName := ⟨RX6, "questions", "(I)I"⟩
abbrev cX6_top : ByteArray := prog_1_method_28_code
def yX6_top : MethodName := ⟨RX6, "top", "(I)I"⟩
abbrev cX6_fellows : ByteArray := prog_1_method_29_code
def yX6_fellows : MethodName := ⟨RX6, "fellows", "(I)I"⟩
abbrev cX6_who : ByteArray := prog_1_method_30_code
def yX6_who : MethodName := ⟨RX6, "who", "(IIIII)I"⟩
abbrev cX6_what : ByteArray := prog_1_method_31_code
def yX6_what : MethodName := ⟨RX6, "what", "(IIIII)I"⟩
abbrev cX6_thought : ByteArray := prog_1_method_32_code
def yX6_thought : MethodName := ⟨RX6, "thought", "(IIIII)J"⟩
abbrev cX6_drawn : ByteArray := prog_1_method_33_code
def yX6_drawn : MethodName := ⟨RX6, "drawn", "(III)I"⟩
abbrev cX6_image : ByteArray := prog_1_method_34_code
def yX6_image : MethodName := ⟨RX6, "image", "(I)I"⟩
abbrev cX6_restore : ByteArray := prog_1_method_35_code
def yX6_restore : MethodName := ⟨RX6, "restore", "(I)I"⟩
abbrev cX6_kind : ByteArray := prog_1_method_36_code
def yX6_kind : MethodName := ⟨RX6, "kind", "(I)I"⟩
abbrev cX6_as : ByteArray := prog_1_method_37_code
def yX6_as : MethodName := ⟨RX6, "as", "(II)I"⟩
abbrev cX6_ask : ByteArray := prog_1_method_38_code
def yX6_ask : MethodName := ⟨RX6, "ask", "(II)I"⟩
abbrev cX6_trace : ByteArray := prog_1_method_39_code
def yX6_trace : MethodName := ⟨RX6, "trace", "(I)I"⟩
abbrev cX6_count : ByteArray := prog_1_method_40_code
def yX6_count : MethodName := ⟨RX6, "count", "(I)I"⟩
abbrev cX6_status : ByteArray := prog_1_method_41_code
def yX6_status : MethodName := ⟨RX6, "status", "()I"⟩
abbrev cX6_outside : ByteArray := prog_1_method_42_code
def yX6_outside : MethodName := ⟨RX6, "outside", "(III)Z"⟩
abbrev cX6_noRow : ByteArray := prog_1_method_43_code
def yX6_noRow : MethodName := ⟨RX6, "noRow", "(I)Z"⟩
abbrev cX6_noSchool : ByteArray := prog_1_method_44_code
def yX6_noSchool : MethodName := ⟨RX6, "noSchool", "()Z"⟩
abbrev cX6_noPupil : ByteArray := prog_1_method_45_code
def yX6_noPupil : MethodName := ⟨RX6, "noPupil", "(I)Z"⟩
abbrev cX6_noSubject : ByteArray := prog_1_method_46_code
def yX6_noSubject : MethodName := ⟨RX6, "noSubject", "(I)Z"⟩
abbrev cX6_noLesson : ByteArray := prog_1_method_47_code
def yX6_noLesson : MethodName := ⟨RX6, "noLesson", "(I)Z"⟩
abbrev cX6_wrongPlace : ByteArray := prog_1_method_48_code
def yX6_wrongPlace : MethodName := ⟨RX6, "wrongPlace", "(III)I"⟩
abbrev cX6_found : ByteArray := prog_1_method_49_code
def yX6_found : MethodName := ⟨RX6, "found", "(I)I"⟩
abbrev cX6_fine : ByteArray := prog_1_method_50_code
def yX6_fine : MethodName := ⟨RX6, "fine", "(I)I"⟩
abbrev cX6_rowsThere : ByteArray := prog_1_method_51_code
def yX6_rowsThere : MethodName := ⟨RX6, "rowsThere", "()I"⟩
abbrev cX6_isKind : ByteArray := prog_1_method_52_code
def yX6_isKind : MethodName := ⟨RX6, "isKind", "(II)Z"⟩
abbrev cX6_bitNumber : ByteArray := prog_1_method_53_code
def yX6_bitNumber : MethodName := ⟨RX6, "bitNumber", "(II)I"⟩
abbrev cX6_power : ByteArray := prog_1_method_54_code
def yX6_power : MethodName := ⟨RX6, "power", "(JI)J"⟩
abbrev cX6_commonDivisor : ByteArray := prog_1_method_55_code
def yX6_commonDivisor : MethodName := ⟨RX6, "commonDivisor", "(JJ)J"⟩
def RX7 : String := "SnakeRollModel"
def TX7 : u_T := fun k => match k with
  | 0 => ("SnakeRollModel", "thrown", "I", false)
  | 1 => ("SnakeRollModel", "status", "I", false)
  | 2 => ("SnakeRollModel", "lane", "[I", true)
  | 3 => ("SnakeRollModel", "many", "[I", true)
  | 4 => ("SnakeRollModel", "item", "[I", true)
  | 5 => ("SnakeRollModel", "school", "[I", true)
  | 6 => ("SnakeRollModel", "fresh", "[I", true)
  | 7 => ("SnakeRollModel", "then", "[I", true)
  | 8 => ("SnakeRollModel", "was", "[I", true)
  | 9 => ("SnakeRollModel", "acts", "I", false)
  | 10 => ("SnakeRollModel", "tape", "[I", true)
  | 11 => ("SnakeRollModel", "taped", "I", false)
  | 12 => ("SnakeRollModel", "cursor", "I", false)
  | 13 => ("SnakeRollModel", "start", "I", false)
  | 14 => ("SnakeRollModel", "token", "I", false)
  | 15 => ("SnakeRollModel", "value", "I", false)
  | 16 => ("SnakeRollModel", "fault", "I", false)
  | 17 => ("SnakeRollModel", "faultAt", "I", false)
  | 18 => ("SnakeRollModel", "latest", "I", false)
  | 19 => ("SnakeRollModel", "hearing", "[Z", true)
  | 20 => ("SnakeRollModel", "seated", "[I", true)
  | 21 => ("SnakeRollModel", "best", "[I", true)
  | 22 => ("SnakeRollModel", "isKept", "[Z", true)
  | 23 => ("SnakeRollModel", "kept", "[I", true)
  | 24 => ("SnakeRollModel", "trace", "[I", true)
  | _ => ("SnakeRollModel", "traced", "I", false)
def tyX7 : Nat → FieldType := fun k => match k with
  | 0 => .int
  | 1 => .int
  | 2 => .array .int
  | 3 => .array .int
  | 4 => .array .int
  | 5 => .array .int
  | 6 => .array .int
  | 7 => .array .int
  | 8 => .array .int
  | 9 => .int
  | 10 => .array .int
  | 11 => .int
  | 12 => .int
  | 13 => .int
  | 14 => .int
  | 15 => .int
  | 16 => .int
  | 17 => .int
  | 18 => .int
  | 19 => .array .boolean
  | 20 => .array .int
  | 21 => .array .int
  | 22 => .array .boolean
  | 23 => .array .int
  | 24 => .array .int
  | _ => .int
abbrev wsX70 : List Cond := u_ws RX7 TX7 26
theorem nmX7 : ∀ a, a < 26 → ∀ b, b < 26 → a ≠ b → (TX7 a).2.1 ≠ (TX7 b).2.1 := by decide +kernel
theorem tyX7_ok : ∀ k, k < 26 → parseFieldDescriptor (TX7 k).2.2.1 = some (tyX7 k) := by decide +kernel
abbrev cX7_init : ByteArray := prog_9_method_1_code
def yX7_init : MethodName := ⟨RX7, "<init>", "()V"⟩
abbrev cX7_in : ByteArray := prog_9_method_3_code
def yX7_in : MethodName := ⟨RX7, "in", "(JJJ)Z"⟩
abbrev cX7_finding : ByteArray := prog_9_method_4_code
def yX7_finding : MethodName := ⟨RX7, "finding", "(I)I"⟩
abbrev cX7_isRow : ByteArray := prog_9_method_5_code
def yX7_isRow : MethodName := ⟨RX7, "isRow", "(I)Z"⟩
abbrev cX7_row : ByteArray := prog_9_method_6_code
def yX7_row : MethodName := ⟨RX7, "row", "(III)I"⟩
abbrev cX7_set : ByteArray := prog_9_method_7_code
def yX7_set : MethodName := ⟨RX7, "set", "(III)I"⟩
abbrev cX7_copy : ByteArray := prog_9_method_8_code
def yX7_copy : MethodName := ⟨RX7, "copy", "(IIIII)I"⟩
abbrev cX7_drop : ByteArray := prog_9_method_9_code
def yX7_drop : MethodName := ⟨RX7, "drop", "(I)I"⟩
abbrev cX7_feed : ByteArray := prog_9_method_10_code
def yX7_feed : MethodName := ⟨RX7, "feed", "(I)I"⟩
abbrev cX7_bad : ByteArray := prog_9_method_11_code
def yX7_bad : MethodName := ⟨RX7, "bad", "(I)V"⟩
abbrev cX7_nextToken : ByteArray := prog_9_method_12_code
def yX7_nextToken : MethodName := ⟨RX7, "nextToken", "()V"⟩
abbrev cX7_must : ByteArray := prog_9_method_13_code
def yX7_must : MethodName := ⟨RX7, "must", "(Z)V"⟩
abbrev cX7_isLetter : ByteArray := prog_9_method_14_code
def yX7_isLetter : MethodName := ⟨RX7, "isLetter", "(I)Z"⟩
abbrev cX7_number : ByteArray := prog_9_method_15_code
def yX7_number : MethodName := ⟨RX7, "number", "(II)I"⟩
abbrev cX7_mustSign : ByteArray := prog_9_method_16_code
def yX7_mustSign : MethodName := ⟨RX7, "mustSign", "(I)V"⟩
abbrev cX7_begin : ByteArray := prog_9_method_17_code
def yX7_begin : MethodName := ⟨RX7, "begin", "()V"⟩
abbrev cX7_failed : ByteArray := prog_9_method_18_code
def yX7_failed : MethodName := ⟨RX7, "failed", "()Z"⟩
abbrev cX7_fault : ByteArray := prog_9_method_19_code
def yX7_fault : MethodName := ⟨RX7, "fault", "()I"⟩
abbrev cX7_kindBy : ByteArray := prog_9_method_20_code
def yX7_kindBy : MethodName := ⟨RX7, "kindBy", "(I)I"⟩
abbrev cX7_isSort : ByteArray := prog_9_method_21_code
def yX7_isSort : MethodName := ⟨RX7, "isSort", "()Z"⟩
abbrev cX7_readSubject : ByteArray := prog_9_method_22_code
def yX7_readSubject : MethodName := ⟨RX7, "readSubject", "()V"⟩
abbrev cX7_readLesson : ByteArray := prog_9_method_23_code
def yX7_readLesson : MethodName := ⟨RX7, "readLesson", "()V"⟩
abbrev cX7_readPupil : ByteArray := prog_9_method_24_code
def yX7_readPupil : MethodName := ⟨RX7, "readPupil", "()V"⟩
abbrev cX7_school : ByteArray := prog_9_method_25_code
def yX7_school : MethodName := ⟨RX7, "school", "()I"⟩
abbrev cX7_isThere : ByteArray := prog_9_method_26_code
def yX7_isThere : MethodName := ⟨RX7, "isThere", "()Z"⟩
abbrev cX7_isPupil : ByteArray := prog_9_method_27_code
def yX7_isPupil : MethodName := ⟨RX7, "isPupil", "(I)Z"⟩
abbrev cX7_isSubject : ByteArray := prog_9_method_28_code
def yX7_isSubject : MethodName := ⟨RX7, "isSubject", "(I)Z"⟩
abbrev cX7_isLesson : ByteArray := prog_9_method_29_code
def yX7_isLesson : MethodName := ⟨RX7, "isLesson", "(I)Z"⟩
abbrev cX7_bits : ByteArray := prog_9_method_30_code
def yX7_bits : MethodName := ⟨RX7, "bits", "(I)I"⟩
abbrev cX7_has : ByteArray := prog_9_method_31_code
def yX7_has : MethodName := ⟨RX7, "has", "(II)Z"⟩
abbrev cX7_of : ByteArray := prog_9_method_32_code
def yX7_of : MethodName := ⟨RX7, "of", "([III)I"⟩
abbrev cX7_be : ByteArray := prog_9_method_33_code
def yX7_be : MethodName := ⟨RX7, "be", "([IIII)V"⟩
abbrev cX7_subjectOf : ByteArray := prog_9_method_34_code
def yX7_subjectOf : MethodName := ⟨RX7, "subjectOf", "([II)I"⟩
abbrev cX7_canGrasp : ByteArray := prog_9_method_35_code
def yX7_canGrasp : MethodName := ⟨RX7, "canGrasp", "([III)Z"⟩
abbrev cX7_inSeat : ByteArray := prog_9_method_36_code
def yX7_inSeat : MethodName := ⟨RX7, "inSeat", "([II)I"⟩
abbrev cX7_hears : ByteArray := prog_9_method_37_code
def yX7_hears : MethodName := ⟨RX7, "hears", "([II)Z"⟩
abbrev cX7_learned : ByteArray := prog_9_method_38_code
def yX7_learned : MethodName := ⟨RX7, "learned", "([III)I"⟩
abbrev cX7_dayBy : ByteArray := prog_9_method_39_code
def yX7_dayBy : MethodName := ⟨RX7, "dayBy", "([IZ)V"⟩
abbrev cX7_daysOf : ByteArray := prog_9_method_40_code
def yX7_daysOf : MethodName := ⟨RX7, "daysOf", "([II)V"⟩
abbrev cX7_known : ByteArray := prog_9_method_41_code
def yX7_known : MethodName := ⟨RX7, "known", "([I)I"⟩
abbrev cX7_knownBy : ByteArray := prog_9_method_42_code
def yX7_knownBy : MethodName := ⟨RX7, "knownBy", "([IZ)I"⟩
abbrev cX7_exchange : ByteArray := prog_9_method_43_code
def yX7_exchange : MethodName := ⟨RX7, "exchange", "([III)V"⟩
abbrev cX7_layThen : ByteArray := prog_9_method_44_code
def yX7_layThen : MethodName := ⟨RX7, "layThen", "()V"⟩
abbrev cX7_keep : ByteArray := prog_9_method_45_code
def yX7_keep : MethodName := ⟨RX7, "keep", "()V"⟩
abbrev cX7_days : ByteArray := prog_9_method_46_code
def yX7_days : MethodName := ⟨RX7, "days", "(I)I"⟩
abbrev cX7_change : ByteArray := prog_9_method_47_code
def yX7_change : MethodName := ⟨RX7, "change", "(II)I"⟩
abbrev cX7_teach : ByteArray := prog_9_method_48_code
def yX7_teach : MethodName := ⟨RX7, "teach", "(II)I"⟩
abbrev cX7_turned : ByteArray := prog_9_method_49_code
def yX7_turned : MethodName := ⟨RX7, "turned", "(IIZ)I"⟩
abbrev cX7_forget : ByteArray := prog_9_method_50_code
def yX7_forget : MethodName := ⟨RX7, "forget", "(II)I"⟩
abbrev cX7_tell : ByteArray := prog_9_method_51_code
def yX7_tell : MethodName := ⟨RX7, "tell", "(II)I"⟩
abbrev cX7_undo : ByteArray := prog_9_method_52_code
def yX7_undo : MethodName := ⟨RX7, "undo", "()I"⟩
abbrev cX7_graspable : ByteArray := prog_9_method_53_code
def yX7_graspable : MethodName := ⟨RX7, "graspable", "(I)I"⟩
abbrev cX7_pupil : ByteArray := prog_9_method_54_code
def yX7_pupil : MethodName := ⟨RX7, "pupil", "(II)I"⟩
abbrev cX7_heard : ByteArray := prog_9_method_55_code
def yX7_heard : MethodName := ⟨RX7, "heard", "(II)I"⟩
abbrev cX7_subject : ByteArray := prog_9_method_56_code
def yX7_subject : MethodName := ⟨RX7, "subject", "(I)I"⟩
abbrev cX7_lesson : ByteArray := prog_9_method_57_code
def yX7_lesson : MethodName := ⟨RX7, "lesson", "(I)I"⟩
abbrev cX7_ahead : ByteArray := prog_9_method_58_code
def yX7_ahead : MethodName := ⟨RX7, "ahead", "(III)I"⟩
abbrev cX7_when : ByteArray := prog_9_method_59_code
def yX7_when : MethodName := ⟨RX7, "when", "(II)I"⟩
abbrev cX7_all : ByteArray := prog_9_method_60_code
def yX7_all : MethodName := ⟨RX7, "all", "(I)I"⟩
abbrev cX7_follows : ByteArray := prog_9_method_61_code
def yX7_follows : MethodName := ⟨RX7, "follows", "(I)I"⟩
abbrev cX7_needed : ByteArray := prog_9_method_62_code
def yX7_needed : MethodName := ⟨RX7, "needed", "(II)I"⟩
abbrev cX7_lacks : ByteArray := prog_9_method_63_code
def yX7_lacks : MethodName := ⟨RX7, "lacks", "(II)I"⟩
abbrev cX7_shortest : ByteArray := prog_9_method_64_code
def yX7_shortest : MethodName := ⟨RX7, "shortest", "(III)I"⟩
abbrev cX7_nextOrder : ByteArray := prog_9_method_65_code
def yX7_nextOrder : MethodName := ⟨RX7, "nextOrder", "(I)Z"⟩
abbrev cX7_seating : ByteArray := prog_9_method_66_code
def yX7_seating : MethodName := ⟨RX7, "seating", "(II)I"⟩
abbrev cX7_table : ByteArray := prog_9_method_67_code
def yX7_table : MethodName := ⟨RX7, "table", "(II)I"⟩
abbrev cX7_tellsApart : ByteArray := prog_9_method_68_code
def yX7_tellsApart : MethodName := ⟨RX7, "tellsApart", "(I)Z"⟩
abbrev cX7_questions : ByteArray := prog_9_method_69_code
def yX7_questions : MethodName := ⟨RX7, "questions", "(I)I"⟩
abbrev cX7_top : ByteArray := prog_9_method_70_code
def yX7_top : MethodName := ⟨RX7, "top", "(I)I"⟩
abbrev cX7_fellows : ByteArray := prog_9_method_71_code
def yX7_fellows : MethodName := ⟨RX7, "fellows", "(I)I"⟩
abbrev cX7_isSo : ByteArray := prog_9_method_72_code
def yX7_isSo : MethodName := ⟨RX7, "isSo", "(III)Z"⟩
abbrev cX7_rowFound : ByteArray := prog_9_method_73_code
def yX7_rowFound : MethodName := ⟨RX7, "rowFound", "(III)I"⟩
abbrev cX7_isMany : ByteArray := prog_9_method_74_code
def yX7_isMany : MethodName := ⟨RX7, "isMany", "(II)Z"⟩
abbrev cX7_who : ByteArray := prog_9_method_75_code
def yX7_who : MethodName := ⟨RX7, "who", "(IIIII)I"⟩
abbrev cX7_what : ByteArray := prog_9_method_76_code
def yX7_what : MethodName := ⟨RX7, "what", "(IIIII)I"⟩
abbrev cX7_thought : ByteArray := prog_9_method_77_code
def yX7_thought : MethodName := ⟨RX7, "thought", "(IIIII)J"⟩
abbrev cX7_drawn : ByteArray := prog_9_method_78_code
def yX7_drawn : MethodName := ⟨RX7, "drawn", "(III)I"⟩
abbrev cX7_image : ByteArray := prog_9_method_79_code
def yX7_image : MethodName := ⟨RX7, "image", "(I)I"⟩
abbrev cX7_restore : ByteArray := prog_9_method_80_code
def yX7_restore : MethodName := ⟨RX7, "restore", "(I)I"⟩
abbrev cX7_isOf : ByteArray := prog_9_method_81_code
def yX7_isOf : MethodName := ⟨RX7, "isOf", "(II)Z"⟩
abbrev cX7_kind : ByteArray := prog_9_method_82_code
def yX7_kind : MethodName := ⟨RX7, "kind", "(I)I"⟩
abbrev cX7_as : ByteArray := prog_9_method_83_code
def yX7_as : MethodName := ⟨RX7, "as", "(II)I"⟩
abbrev cX7_began : ByteArray := prog_9_method_84_code
def yX7_began : MethodName := ⟨RX7, "began", "(I)V"⟩
abbrev cX7_plainSize : ByteArray := prog_9_method_85_code
def yX7_plainSize : MethodName := ⟨RX7, "plainSize", "(I)I"⟩
abbrev cX7_snakeSize : ByteArray := prog_9_method_86_code
def yX7_snakeSize : MethodName := ⟨RX7, "snakeSize", "(I)I"⟩
abbrev cX7_markOf : ByteArray := prog_9_method_87_code
def yX7_markOf : MethodName := ⟨RX7, "markOf", "(I)I"⟩
abbrev cX7_sizeOf : ByteArray := prog_9_method_88_code
def yX7_sizeOf : MethodName := ⟨RX7, "sizeOf", "(I)I"⟩
abbrev cX7_ask : ByteArray := prog_9_method_89_code
def yX7_ask : MethodName := ⟨RX7, "ask", "(II)I"⟩
abbrev cX7_trace : ByteArray := prog_9_method_90_code
def yX7_trace : MethodName := ⟨RX7, "trace", "(I)I"⟩
abbrev cX7_count : ByteArray := prog_9_method_91_code
def yX7_count : MethodName := ⟨RX7, "count", "(I)I"⟩
abbrev cX7_status : ByteArray := prog_9_method_92_code
def yX7_status : MethodName := ⟨RX7, "status", "()I"⟩
def RJ6 : String := "java/lang/Integer"
def TJ6 : u_T := fun k => match k with
  | _ => ("", "", "", false)
def tyJ6 : Nat → FieldType := fun k => match k with
  | _ => .int
abbrev wsJ60 : List Cond := u_ws RJ6 TJ6 0
theorem nmJ6 : ∀ a, a < 0 → ∀ b, b < 0 → a ≠ b → (TJ6 a).2.1 ≠ (TJ6 b).2.1 := by decide +kernel
theorem tyJ6_ok : ∀ k, k < 0 → parseFieldDescriptor (TJ6 k).2.2.1 = some (tyJ6 k) := by decide +kernel
abbrev cJ6_bitCount_0f7a4 : ByteArray := prog_10_method_49_code
def yJ6_bitCount_0f7a4 : MethodName := ⟨RJ6, "bitCount", "(I)I"⟩
def RJ10 : String := "java/lang/System"
def TJ10 : u_T := fun k => match k with
  | _ => ("", "", "", false)
def tyJ10 : Nat → FieldType := fun k => match k with
  | _ => .int
abbrev wsJ100 : List Cond := u_ws RJ10 TJ10 0
theorem nmJ10 : ∀ a, a < 0 → ∀ b, b < 0 → a ≠ b → (TJ10 a).2.1 ≠ (TJ10 b).2.1 := by decide +kernel
theorem tyJ10_ok : ∀ k, k < 0 → parseFieldDescriptor (TJ10 k).2.2.1 = some (tyJ10 k) := by decide +kernel
def RL : String := "SnakeRollLaw"
abbrev cL_law : ByteArray := code
def yL_law : MethodName := ⟨RL, "law", "([I)Z"⟩
abbrev vwCl : List vw_C := [(RX0, TX0, 3), (RX1, TX1, 7), (RX2, TX2, 8), (RX3, TX3, 8), (RX4, TX4, 4), (RX5, TX5, 11), (RX6, TX6, 8), (RX7, TX7, 26)]
end
section
/-! ===== CORE: a memory as functions over cell numbers; the judgement V over it ===== -/
/-- the memory: how many cells; the kind of each (0, class) (1, length) ints (2, length) booleans (3, length) rows (4, length) schools; ints; references -/
abbrev mM : Type := Nat × (Nat → Nat × Nat) × (Nat → Nat → Int32) × (Nat → Nat → Option Nat)
abbrev mz (M : mM) : Nat := M.1
abbrev mk_ (M : mM) : Nat → Nat × Nat := M.2.1
abbrev mi_ (M : mM) : Nat → Nat → Int32 := M.2.2.1
abbrev mr_ (M : mM) : Nat → Nat → Option Nat := M.2.2.2
def nF_ (c : Nat) : Nat := [3, 7, 8, 8, 4, 11, 8, 26].getD c 0
def rF_ (c j : Nat) : Bool := ([[0], [0], [0, 1, 4, 5, 6], [0, 1], [0], [5, 6, 7, 8, 9, 10], [0, 1, 2, 3, 4, 5, 6], [2, 3, 4, 5, 6, 7, 8, 10, 19, 20, 21, 22, 23, 24]].getD c []).contains j
def up2 {α : Type} (f : Nat → Nat → α) (a j : Nat) (v : α) : Nat → Nat → α := fun b k => if b = a then (if k = j then v else f b k) else f b k
/-- the world's constants: tables, the four array classes, the first address, outer arrays' addresses, the script -/
abbrev zZ : Type := Launch × va_G × (ClassId × ClassId × ClassId × ClassId) × Nat × (UInt32 → Nat) × Nat × (Nat → Int32)
abbrev zl (Z : zZ) : Launch := Z.1
abbrev zD (Z : zZ) : va_G := Z.2.1
abbrev zC (Z : zZ) : ClassId × ClassId × ClassId × ClassId := Z.2.2.1
abbrev zB (Z : zZ) : Nat := Z.2.2.2.1
abbrev zE (Z : zZ) : UInt32 → Nat := Z.2.2.2.2.1
abbrev zL (Z : zZ) : Nat := Z.2.2.2.2.2.1
abbrev zx (Z : zZ) : Nat → Int32 := Z.2.2.2.2.2.2
def zA (Z : zZ) : Nat → Prop := fun q => zB Z ≤ q
def ad (Z : zZ) (k : Nat) : Nat := zB Z + k
/-- an abstract value: a reference by its cell's number; an outer array (a float here) by its own -/
def cv (Z : zZ) : Value → Value
  | .ref k => .ref (ad Z k)
  | .float u => .ref (zE Z u)
  | v => v
theorem cv_cat (Z : zZ) (v : Value) : (cv Z v).category = v.category := by cases v <;> rfl
def tb_s (j : Nat) : Int32 := [10, 11, 12, 11, 13, 14].getD j 0
def tb_m (j : Nat) : Int32 := [20, 21, 24, 22, 23, 23].getD j 0
def xa (Z : zZ) (u : UInt32) : Option (Nat × (Nat → Int32)) := if u = 0 then some (6, tb_s) else if u = 1 then some (6, tb_m) else if u = 2 then some (zL Z, zx Z) else none
def ty_ (Z : zZ) : List (ClassId × FieldType) := [((zC Z).1, .int), ((zC Z).2.1, .boolean), ((zC Z).2.2.1, .object RX4), ((zC Z).2.2.2, .object RX5)]
def ce_ (Z : zZ) (M : mM) (k : Nat) : va_E := match (mk_ M k).1 with
  | 0 => .inr ((mk_ M k).2, (List.range (nF_ (mk_ M k).2)).map (fun j => if rF_ (mk_ M k).2 j then va_rf ((mr_ M k j).map (ad Z)) else .int (mi_ M k j)))
  | 1 => .inl ((zC Z).1, (mk_ M k).2, .inl (mi_ M k))
  | 2 => .inl ((zC Z).2.1, (mk_ M k).2, .inl (mi_ M k))
  | 3 => .inl ((zC Z).2.2.1, (mk_ M k).2, .inr (.inr (.inr (.inr (fun j => (mr_ M k j).map (ad Z))))))
  | _ => .inl ((zC Z).2.2.2, (mk_ M k).2, .inr (.inr (.inr (.inr (fun j => (mr_ M k j).map (ad Z))))))
def ws_ (Z : zZ) (M : mM) : va_W := (List.range (mz M)).map (fun k => (ad Z k, ce_ Z M k))
theorem ws_get {Z : zZ} {M : mM} {k : Nat} (h : k < mz M) : (ws_ Z M)[k]? = some (ad Z k, ce_ Z M k) := by
  simp [ws_, List.getElem?_map, List.getElem?_range h]
theorem ws_some {Z : zZ} {M : mM} {k : Nat} {q : Nat × va_E} (h : (ws_ Z M)[k]? = some q) : k < mz M ∧ q = (ad Z k, ce_ Z M k) := by
  have hk : k < mz M := by
    have := (List.getElem?_eq_some_iff.mp h).1
    simpa [ws_] using this
  rw [ws_get hk] at h
  exact ⟨hk, (Option.some.inj h).symm⟩
theorem ws_D (Z : zZ) (M : mM) : va_D (zA Z) (ws_ Z M) := by
  refine ⟨fun i j p q hi hj h => ?_, fun k q hk => ?_⟩
  · obtain ⟨-, rfl⟩ := ws_some hi
    obtain ⟨-, rfl⟩ := ws_some hj
    simp only [ad] at h
    omega
  · obtain ⟨-, rfl⟩ := ws_some hk
    exact Nat.le_add_right _ _
theorem ws_set {Z : zZ} {M M' : mM} {k : Nat} {e : va_E} (hz : mz M' = mz M) (hk : k < mz M) (he : ce_ Z M' k = e) (ho : ∀ j, j ≠ k → ce_ Z M' j = ce_ Z M j) : (ws_ Z M).set k (ad Z k, e) = ws_ Z M' := by
  apply List.ext_getElem?
  intro j
  by_cases hj : j = k
  · subst hj
    rw [List.getElem?_set_self (by simpa [ws_] using hk), ws_get (by rw [hz]; exact hk), he]
  · rw [List.getElem?_set_ne (Ne.symm hj)]
    by_cases hl : j < mz M
    · rw [ws_get hl, ws_get (by rw [hz]; exact hl), ho j hj]
    · rw [List.getElem?_eq_none (by simp [ws_]; omega), List.getElem?_eq_none (by simp [ws_]; omega)]
theorem ws_push {Z : zZ} {M M' : mM} {e : va_E} (hz : mz M' = mz M + 1) (he : ce_ Z M' (mz M) = e) (ho : ∀ j, j < mz M → ce_ Z M' j = ce_ Z M j) : ws_ Z M ++ [(ad Z (mz M), e)] = ws_ Z M' := by
  unfold ws_
  rw [hz, List.range_succ, List.map_append, ← he]
  congr 1
  apply List.map_congr_left
  intro j hj
  rw [ho j (List.mem_range.mp hj)]
/-! the words -/
def TT : List Cond := lw_tbl.filter goodWord
theorem tt_of {w : Cond} (i : Nat) (h : lw_tbl[i]? = some w) (g : goodWord w = true) : w ∈ TT := List.mem_filter.mpr ⟨List.mem_of_getElem? h, g⟩
theorem tt_good {big ws : List Cond} (hw : ∀ w ∈ ws, w ∈ TT) (hb : ∀ w ∈ TT, w ∈ big) : GoodIn big ws := fun w h => ⟨hb w (hw w h), good_of_word (List.mem_filter.mp (hw w h)).2⟩
/-- the nest mates' links -/
def ne_w : Cond → Bool
  | .methodLinkNest _ _ _ _ => true
  | _ => false
def nw_ : List Cond := lw_tbl.filter ne_w
theorem nw_of {w : Cond} (i : Nat) (h : lw_tbl[i]? = some w) (g : ne_w w = true) : w ∈ nw_ := List.mem_filter.mpr ⟨List.mem_of_getElem? h, g⟩
/-- what a state must know: tables, nest mates, arrays of references, statics, outer arrays -/
def KK (Z : zZ) (U : State) : Prop := va_K (zD Z) vwCl (ty_ Z) U ∧ (∀ w ∈ nw_, va_Nw w U) ∧ va_AO RX4 U ∧ va_AO RX5 U ∧
  va_Z RX1 "SIZE_BODIES" "[I" (.ref (zE Z 0)) (zA Z) U U.heap ∧ va_Z RX1 "MARK_BODIES" "[I" (.ref (zE Z 1)) (zA Z) U U.heap ∧
  ∀ (u : UInt32) (n : Nat) (f : Nat → Int32), xa Z u = some (n, f) → va_T .int (zE Z u) n (fun j => .int (f j)) (zA Z) U U.heap
theorem KK.moved {Z : zZ} {s U : State} (h : KK Z s) (hW : s.WarmedH U.vm) (hq : ∀ a : Nat, a < s.heap.size → ¬ zA Z a → U.heap[a]? = s.heap[a]?) : KK Z U := by
  obtain ⟨h1, h2, h3, h4, h5, h6, h7⟩ := h
  refine ⟨va_K.moved hW.alike h1, fun w hw => ?_, va_AO.moved hW.alike h3, va_AO.moved hW.alike h4, (h5.moved hW.alike).kept hq, (h6.moved hW.alike).kept hq, fun u n f hu => ((h7 u n f hu).moved hW.alike).kept hq⟩
  have hk := h2 w hw
  have hf := (List.mem_filter.mp hw).2
  cases w with
  | methodLinkNest a i x h => exact va_Nw.warmM hW hk
  | _ => simp [ne_w] at hf
theorem KK.calling {Z : zZ} {U : State} {g : JFrame} {mk : MethodId} {a : Array Value} (h : KK Z U) : KK Z (U.calling g mk a) := by
  obtain ⟨h1, h2, h3, h4, h5, h6, h7⟩ := h
  have hv : U.vm.Alike (U.calling g mk a).vm := Vm.Alike.refl U.vm
  refine ⟨va_K.moved hv h1, fun w hw => ?_, va_AO.moved hv h3, va_AO.moved hv h4, h5.moved hv, h6.moved hv, fun u n f hu => (h7 u n f hu).moved hv⟩
  have hk := h2 w hw
  have hf := (List.mem_filter.mp hw).2
  cases w with
  | methodLinkNest a i x h => exact va_Nw.same rfl (U := U.calling _ _ _) rfl hk
  | _ => simp [ne_w] at hf
/-! locals -/
def lvh (Z : zZ) (ls : Array Slot) (L : List (Option Value)) : Prop := ls.size = L.length ∧ lv_wf ls ∧ ∀ (i : Nat) (v : Value), L[i]? = some (some v) → ls[i]? = some (.val (cv Z v))
def prs (Z : zZ) (L : List (Option Value)) : List (Nat × Value) := L.zipIdx.filterMap (fun q => q.1.map (fun v => (q.2, cv Z v)))
theorem prs_mem {Z : zZ} {L : List (Option Value)} {q : Nat × Value} : q ∈ prs Z L ↔ ∃ w, L[q.1]? = some (some w) ∧ q.2 = cv Z w := by
  unfold prs
  constructor
  · intro h
    obtain ⟨⟨o, i⟩, h1, h2⟩ := List.mem_filterMap.mp h
    have h3 := List.mem_zipIdx_iff_getElem?.mp h1
    cases o with
    | none => simp at h2
    | some w =>
      simp at h2
      subst h2
      exact ⟨w, h3, rfl⟩
  · rintro ⟨w, h1, h2⟩
    refine List.mem_filterMap.mpr ⟨(some w, q.1), List.mem_zipIdx_iff_getElem?.mpr h1, ?_⟩
    simp [← h2]
theorem lvh_has {Z : zZ} {ls : Array Slot} {L : List (Option Value)} (h : lvh Z ls L) : lv_has ls L.length (prs Z L) := ⟨h.1, h.2.1, fun q hq => by
  obtain ⟨w, h1, h2⟩ := prs_mem.mp hq
  rw [h2]
  exact h.2.2 q.1 w h1⟩
/-- no long stands just before place i -/
def c1_ (L : List (Option Value)) (i : Nat) : Bool := match i with
  | 0 => true
  | j + 1 => match L[j]? with
    | some (some w) => w.category == 1
    | _ => true
theorem lvh_s1 {Z : zZ} {ls' : Array Slot} {L : List (Option Value)} {i : Nat} {v : Value} (hi : i < L.length) (hc : c1_ L i = true)
    (h' : lv_has ls' L.length ((i, cv Z v) :: (prs Z L).filter (fun q => !(q.1 == i) && !(q.1 + 1 == i && q.2.category == 2)))) : lvh Z ls' (L.set i (some v)) := by
  refine ⟨by rw [List.length_set]; exact h'.1, h'.2.1, fun j w hj => ?_⟩
  by_cases hji : j = i
  · subst hji
    rw [List.getElem?_set_self hi] at hj
    cases hj
    exact h'.2.2 (j, cv Z v) List.mem_cons_self
  · rw [List.getElem?_set_ne (Ne.symm hji)] at hj
    refine h'.2.2 (j, cv Z w) (List.mem_cons_of_mem _ (List.mem_filter.mpr ⟨prs_mem.mpr ⟨w, hj, rfl⟩, ?_⟩))
    simp only [Bool.and_eq_true, Bool.not_eq_true', beq_eq_false_iff_ne, ne_eq, Bool.and_eq_false_iff]
    refine ⟨hji, ?_⟩
    by_cases h1 : j + 1 = i
    · right
      subst h1
      simp only [c1_, hj, beq_iff_eq] at hc
      rw [cv_cat, hc]
      decide
    · exact Or.inl h1
theorem lvh_s2 {Z : zZ} {ls' : Array Slot} {L : List (Option Value)} {i : Nat} {v : Value} (hi : i + 1 < L.length) (hc : c1_ L i = true)
    (h' : lv_has ls' L.length ((i, cv Z v) :: (prs Z L).filter (fun q => !(q.1 == i) && (!(q.1 == i + 1) && !(q.1 + 1 == i && q.2.category == 2))))) : lvh Z ls' ((L.set i (some v)).set (i + 1) none) := by
  refine ⟨by rw [List.length_set, List.length_set]; exact h'.1, h'.2.1, fun j w hj => ?_⟩
  by_cases hj2 : j = i + 1
  · subst hj2
    rw [List.getElem?_set_self (by rw [List.length_set]; exact hi)] at hj
    cases hj
  · rw [List.getElem?_set_ne (Ne.symm hj2)] at hj
    by_cases hji : j = i
    · subst hji
      rw [List.getElem?_set_self (by omega)] at hj
      cases hj
      exact h'.2.2 (j, cv Z v) List.mem_cons_self
    · rw [List.getElem?_set_ne (Ne.symm hji)] at hj
      refine h'.2.2 (j, cv Z w) (List.mem_cons_of_mem _ (List.mem_filter.mpr ⟨prs_mem.mpr ⟨w, hj, rfl⟩, ?_⟩))
      simp only [Bool.and_eq_true, Bool.not_eq_true', beq_eq_false_iff_ne, ne_eq, Bool.and_eq_false_iff]
      refine ⟨hji, hj2, ?_⟩
      by_cases h1 : j + 1 = i
      · right
        subst h1
        simp only [c1_, hj, beq_iff_eq] at hc
        rw [cv_cat, hc]
        decide
      · exact Or.inl h1
/-! the machine's side, as one thing -/
abbrev xX : Type := Program × Env × Room × State × MethodId × Array Value × List Frame × Method × Code × (State → Prop)
abbrev xp (X : xX) : Program := X.1
abbrev xe (X : xX) : Env := X.2.1
abbrev xR (X : xX) : Room := X.2.2.1
abbrev xs_ (X : xX) : State := X.2.2.2.1
abbrev xm (X : xX) : MethodId := X.2.2.2.2.1
abbrev xa_ (X : xX) : Array Value := X.2.2.2.2.2.1
abbrev xb (X : xX) : List Frame := X.2.2.2.2.2.2.1
abbrev xt (X : xX) : Method := X.2.2.2.2.2.2.2.1
abbrev xc (X : xX) : Code := X.2.2.2.2.2.2.2.2.1
abbrev xQ (X : xX) : State → Prop := X.2.2.2.2.2.2.2.2.2
def WX (X : xX) (Z : zZ) (H : Heap) (locs : List Loc) (cn sn : Nat) (g : JFrame) : Prop := W (xp X) (zl Z) (xe X) (xR X) (xs_ X) (xm X) (xa_ X) (xb X) (xt X) (xc X) H locs cn sn (xQ X) g
/-- V: with the memory M, cn cells and sn slots made so far, at pc with locals L and stack st, the machine comes to its end -/
def V (X : xX) (Z : zZ) (M : mM) (cn sn pc : Nat) (L : List (Option Value)) (st : List Value) : Prop :=
  ∀ (H : Heap) (locs : List Loc) (ls : Array Slot), zB Z + mz M = (xs_ X).heap.size + cn → va_P (zD Z) vwCl (ws_ Z M) H → va_S (zA Z) (xs_ X).heap H locs → lvh Z ls L →
    W (xp X) (zl Z) (xe X) (xR X) (xs_ X) (xm X) (xa_ X) (xb X) (xt X) (xc X) H locs cn sn (xQ X) (F0 (xm X) pc ls (st.map (cv Z)))
def ok_ (X : xX) (Z : zZ) (y : MethodName) (cc : ByteArray) (nL d mc ms : Nat) : Prop :=
  (xp X).tables.exec = Jvm.exec ∧ (xc X).code = cc ∧ (xc X).maxLocals = nL ∧ (xs_ X).vm.findClass y.cls = some (xm X).cls ∧ (∀ w ∈ TT, w.before (xa_ X) (xs_ X) = true) ∧ KK Z (xs_ X) ∧ zB Z ≤ (xs_ X).heap.size ∧
  (d ≤ (xR X).frames ∧ mc ≤ (xR X).cells ∧ ms ≤ (xR X).slots ∧ 64 * d ≤ (xR X).locals) ∧ (xt X).name = y.name
end
section
/-! ===== RULES of V: one an instruction ===== -/
section RL1
variable {X : xX} {Z : zZ} {M : mM} {y : MethodName} {cc : ByteArray} {nL d mc ms cn sn pc : Nat} {L : List (Option Value)} {st : List Value}
theorem v_iconst {n : Int} (G : ok_ X Z y cc nL d mc ms) (v : Int32) (hd : decode cc pc = .ok (.iconst n, 1)) (hv : Int32.ofInt n = v) (k : V X Z M cn sn (pc + 1) L (.int v :: st)) : V X Z M cn sn pc L st :=
  fun H locs ls h1 h2 h3 h4 => lv_iconst G.1 G.2.1 hd hv (k H locs ls h1 h2 h3 h4)
theorem v_bipush {n : Int} (G : ok_ X Z y cc nL d mc ms) (v : Int32) (hd : decode cc pc = .ok (.bipush n, 2)) (hv : (Int8.ofInt n).toInt32 = v) (k : V X Z M cn sn (pc + 2) L (.int v :: st)) : V X Z M cn sn pc L st :=
  fun H locs ls h1 h2 h3 h4 => lv_bipush G.1 G.2.1 hd hv (k H locs ls h1 h2 h3 h4)
theorem v_sipush {n : Int} (G : ok_ X Z y cc nL d mc ms) (v : Int32) (hd : decode cc pc = .ok (.sipush n, 3)) (hv : (Int16.ofInt n).toInt32 = v) (k : V X Z M cn sn (pc + 3) L (.int v :: st)) : V X Z M cn sn pc L st :=
  fun H locs ls h1 h2 h3 h4 => lv_sipush G.1 G.2.1 hd hv (k H locs ls h1 h2 h3 h4)
theorem v_lconst {n : Fin 2} (G : ok_ X Z y cc nL d mc ms) (v : Int64) (hd : decode cc pc = .ok (.lconst n, 1)) (hv : Int64.ofNat (n : Nat) = v) (k : V X Z M cn sn (pc + 1) L (.long v :: st)) : V X Z M cn sn pc L st :=
  fun H locs ls h1 h2 h3 h4 => lv_lconst G.1 G.2.1 hd hv (k H locs ls h1 h2 h3 h4)
theorem v_ldc {i : Nat} (G : ok_ X Z y cc nL d mc ms) (v : Int32) (hd : decode cc pc = .ok (.ldc i, 2)) (hw : Cond.constant y.cls i v ∈ TT) (k : V X Z M cn sn (pc + 2) L (.int v :: st)) : V X Z M cn sn pc L st :=
  fun H locs ls h1 h2 h3 h4 => lv_ldc G.1 G.2.1 G.2.2.2.1 (G.2.2.2.2.1 _ hw) hd (k H locs ls h1 h2 h3 h4)
theorem v_ldcw {i : Nat} (G : ok_ X Z y cc nL d mc ms) (v : Int32) (hd : decode cc pc = .ok (.ldc_w i, 3)) (hw : Cond.constant y.cls i v ∈ TT) (k : V X Z M cn sn (pc + 3) L (.int v :: st)) : V X Z M cn sn pc L st :=
  fun H locs ls h1 h2 h3 h4 => lv_ldcw G.1 G.2.1 G.2.2.2.1 (G.2.2.2.2.1 _ hw) hd (k H locs ls h1 h2 h3 h4)
theorem v_ldc2 {i : Nat} (G : ok_ X Z y cc nL d mc ms) (v : Int64) (hd : decode cc pc = .ok (.ldc2_w i, 3)) (hw : Cond.constantLong y.cls i v ∈ TT) (k : V X Z M cn sn (pc + 3) L (.long v :: st)) : V X Z M cn sn pc L st :=
  fun H locs ls h1 h2 h3 h4 => lv_ldc2 G.1 G.2.1 G.2.2.2.1 (G.2.2.2.2.1 _ hw) hd (k H locs ls h1 h2 h3 h4)
theorem v_iload {i : Nat} {x : Int32} (G : ok_ X Z y cc nL d mc ms) (hd : decode cc pc = .ok (.iload i, 2)) (hl : L[i]? = some (some (.int x))) (k : V X Z M cn sn (pc + 2) L (.int x :: st)) : V X Z M cn sn pc L st :=
  fun H locs ls h1 h2 h3 h4 => lv_iload G.1 G.2.1 hd (h4.2.2 _ _ hl) (k H locs ls h1 h2 h3 h4)
theorem v_iload_n {i : Fin 4} {x : Int32} (G : ok_ X Z y cc nL d mc ms) (hd : decode cc pc = .ok (.iload_n i, 1)) (hl : L[(i : Nat)]? = some (some (.int x))) (k : V X Z M cn sn (pc + 1) L (.int x :: st)) : V X Z M cn sn pc L st :=
  fun H locs ls h1 h2 h3 h4 => lv_iload_n G.1 G.2.1 hd rfl (h4.2.2 _ _ hl) (k H locs ls h1 h2 h3 h4)
theorem v_lload {i : Nat} {x : Int64} (G : ok_ X Z y cc nL d mc ms) (hd : decode cc pc = .ok (.lload i, 2)) (hl : L[i]? = some (some (.long x))) (k : V X Z M cn sn (pc + 2) L (.long x :: st)) : V X Z M cn sn pc L st :=
  fun H locs ls h1 h2 h3 h4 => lv_lload G.1 G.2.1 hd (h4.2.2 _ _ hl) (k H locs ls h1 h2 h3 h4)
theorem v_lload_n {i : Fin 4} {x : Int64} (G : ok_ X Z y cc nL d mc ms) (hd : decode cc pc = .ok (.lload_n i, 1)) (hl : L[(i : Nat)]? = some (some (.long x))) (k : V X Z M cn sn (pc + 1) L (.long x :: st)) : V X Z M cn sn pc L st :=
  fun H locs ls h1 h2 h3 h4 => lv_lload_n G.1 G.2.1 hd rfl (h4.2.2 _ _ hl) (k H locs ls h1 h2 h3 h4)
theorem v_aload {i a : Nat} (G : ok_ X Z y cc nL d mc ms) (hd : decode cc pc = .ok (.aload i, 2)) (hl : L[i]? = some (some (.ref a))) (k : V X Z M cn sn (pc + 2) L (.ref a :: st)) : V X Z M cn sn pc L st :=
  fun H locs ls h1 h2 h3 h4 => lv_aload G.1 G.2.1 hd (h4.2.2 _ _ hl) (k H locs ls h1 h2 h3 h4)
theorem v_aload_n {i : Fin 4} {a : Nat} (G : ok_ X Z y cc nL d mc ms) (hd : decode cc pc = .ok (.aload_n i, 1)) (hl : L[(i : Nat)]? = some (some (.ref a))) (k : V X Z M cn sn (pc + 1) L (.ref a :: st)) : V X Z M cn sn pc L st :=
  fun H locs ls h1 h2 h3 h4 => lv_aload_n G.1 G.2.1 hd rfl (h4.2.2 _ _ hl) (k H locs ls h1 h2 h3 h4)
theorem v_aload_nx {i : Fin 4} {u : UInt32} (G : ok_ X Z y cc nL d mc ms) (hd : decode cc pc = .ok (.aload_n i, 1)) (hl : L[(i : Nat)]? = some (some (.float u))) (k : V X Z M cn sn (pc + 1) L (.float u :: st)) : V X Z M cn sn pc L st :=
  fun H locs ls h1 h2 h3 h4 => lv_aload_n G.1 G.2.1 hd rfl (h4.2.2 _ _ hl) (k H locs ls h1 h2 h3 h4)
theorem v_istore {i : Nat} {x : Int32} (L' : List (Option Value)) (G : ok_ X Z y cc nL d mc ms) (hd : decode cc pc = .ok (.istore i, 2)) (hi : i < L.length) (hc : c1_ L i = true) (hL : L.set i (some (.int x)) = L') (k : V X Z M cn sn (pc + 2) L' st) : V X Z M cn sn pc L (.int x :: st) :=
  fun H locs ls h1 h2 h3 h4 => lv_istore G.1 G.2.1 hd (lvh_has h4) hi rfl (fun ls' h' => k H locs ls' h1 h2 h3 (hL ▸ lvh_s1 (v := .int x) hi hc h'))
theorem v_istore_n {i : Fin 4} {x : Int32} (L' : List (Option Value)) (G : ok_ X Z y cc nL d mc ms) (hd : decode cc pc = .ok (.istore_n i, 1)) (hi : (i : Nat) < L.length) (hc : c1_ L i = true) (hL : L.set i (some (.int x)) = L') (k : V X Z M cn sn (pc + 1) L' st) : V X Z M cn sn pc L (.int x :: st) :=
  fun H locs ls h1 h2 h3 h4 => lv_istore_n G.1 G.2.1 hd rfl (lvh_has h4) hi rfl (fun ls' h' => k H locs ls' h1 h2 h3 (hL ▸ lvh_s1 (v := .int x) hi hc h'))
theorem v_astore {i a : Nat} (L' : List (Option Value)) (G : ok_ X Z y cc nL d mc ms) (hd : decode cc pc = .ok (.astore i, 2)) (hi : i < L.length) (hc : c1_ L i = true) (hL : L.set i (some (.ref a)) = L') (k : V X Z M cn sn (pc + 2) L' st) : V X Z M cn sn pc L (.ref a :: st) :=
  fun H locs ls h1 h2 h3 h4 => lv_astore G.1 G.2.1 hd (lvh_has h4) hi rfl (fun ls' h' => k H locs ls' h1 h2 h3 (hL ▸ lvh_s1 (v := .ref a) hi hc h'))
theorem v_astore_n {i : Fin 4} {a : Nat} (L' : List (Option Value)) (G : ok_ X Z y cc nL d mc ms) (hd : decode cc pc = .ok (.astore_n i, 1)) (hi : (i : Nat) < L.length) (hc : c1_ L i = true) (hL : L.set i (some (.ref a)) = L') (k : V X Z M cn sn (pc + 1) L' st) : V X Z M cn sn pc L (.ref a :: st) :=
  fun H locs ls h1 h2 h3 h4 => lv_astore_n G.1 G.2.1 hd rfl (lvh_has h4) hi rfl (fun ls' h' => k H locs ls' h1 h2 h3 (hL ▸ lvh_s1 (v := .ref a) hi hc h'))
theorem v_lstore {i : Nat} {x : Int64} (L' : List (Option Value)) (G : ok_ X Z y cc nL d mc ms) (hd : decode cc pc = .ok (.lstore i, 2)) (hi : i + 1 < L.length) (hc : c1_ L i = true) (hL : (L.set i (some (.long x))).set (i + 1) none = L') (k : V X Z M cn sn (pc + 2) L' st) : V X Z M cn sn pc L (.long x :: st) :=
  fun H locs ls h1 h2 h3 h4 => lv_lstore G.1 G.2.1 hd (lvh_has h4) hi rfl (fun ls' h' => k H locs ls' h1 h2 h3 (hL ▸ lvh_s2 (v := .long x) hi hc h'))
theorem v_lstore_n {i : Fin 4} {x : Int64} (L' : List (Option Value)) (G : ok_ X Z y cc nL d mc ms) (hd : decode cc pc = .ok (.lstore_n i, 1)) (hi : (i : Nat) + 1 < L.length) (hc : c1_ L i = true) (hL : (L.set i (some (.long x))).set (i + 1) none = L') (k : V X Z M cn sn (pc + 1) L' st) : V X Z M cn sn pc L (.long x :: st) :=
  fun H locs ls h1 h2 h3 h4 => lv_lstore_n G.1 G.2.1 hd rfl (lvh_has h4) hi rfl (fun ls' h' => k H locs ls' h1 h2 h3 (hL ▸ lvh_s2 (v := .long x) hi hc h'))
theorem v_iinc {i : Nat} {n : Int} {x : Int32} (v : Int32) (L' : List (Option Value)) (G : ok_ X Z y cc nL d mc ms) (hd : decode cc pc = .ok (.iinc i n, 3)) (hl : L[i]? = some (some (.int x))) (hv : x + Int32.ofInt n = v) (hi : i < L.length) (hc : c1_ L i = true) (hL : L.set i (some (.int v)) = L') (k : V X Z M cn sn (pc + 3) L' st) : V X Z M cn sn pc L st :=
  fun H locs ls h1 h2 h3 h4 => by
    obtain ⟨q, hq⟩ := List.getElem?_of_mem (prs_mem (Z := Z) (L := L) (q := (i, .int x)) |>.mpr ⟨_, hl, rfl⟩)
    exact lv_iinc G.1 G.2.1 hd (lvh_has h4) hq hv hi rfl (fun ls' h' => k H locs ls' h1 h2 h3 (hL ▸ lvh_s1 (v := .int v) hi hc h'))
theorem v_iadd {a b : Int32} (G : ok_ X Z y cc nL d mc ms) (hd : decode cc pc = .ok (.iadd, 1)) (k : V X Z M cn sn (pc + 1) L (.int (a + b) :: st)) : V X Z M cn sn pc L (.int b :: .int a :: st) :=
  fun H locs ls h1 h2 h3 h4 => lv_iadd G.1 G.2.1 hd (k H locs ls h1 h2 h3 h4)
theorem v_isub {a b : Int32} (G : ok_ X Z y cc nL d mc ms) (hd : decode cc pc = .ok (.isub, 1)) (k : V X Z M cn sn (pc + 1) L (.int (a - b) :: st)) : V X Z M cn sn pc L (.int b :: .int a :: st) :=
  fun H locs ls h1 h2 h3 h4 => lv_isub G.1 G.2.1 hd (k H locs ls h1 h2 h3 h4)
theorem v_imul {a b : Int32} (G : ok_ X Z y cc nL d mc ms) (hd : decode cc pc = .ok (.imul, 1)) (k : V X Z M cn sn (pc + 1) L (.int (a * b) :: st)) : V X Z M cn sn pc L (.int b :: .int a :: st) :=
  fun H locs ls h1 h2 h3 h4 => lv_imul G.1 G.2.1 hd (k H locs ls h1 h2 h3 h4)
theorem v_iand {a b : Int32} (G : ok_ X Z y cc nL d mc ms) (hd : decode cc pc = .ok (.iand, 1)) (k : V X Z M cn sn (pc + 1) L (.int (a &&& b) :: st)) : V X Z M cn sn pc L (.int b :: .int a :: st) :=
  fun H locs ls h1 h2 h3 h4 => lv_iand G.1 G.2.1 hd (k H locs ls h1 h2 h3 h4)
theorem v_ior {a b : Int32} (G : ok_ X Z y cc nL d mc ms) (hd : decode cc pc = .ok (.ior, 1)) (k : V X Z M cn sn (pc + 1) L (.int (a ||| b) :: st)) : V X Z M cn sn pc L (.int b :: .int a :: st) :=
  fun H locs ls h1 h2 h3 h4 => lv_ior G.1 G.2.1 hd (k H locs ls h1 h2 h3 h4)
theorem v_ixor {a b : Int32} (G : ok_ X Z y cc nL d mc ms) (hd : decode cc pc = .ok (.ixor, 1)) (k : V X Z M cn sn (pc + 1) L (.int (a ^^^ b) :: st)) : V X Z M cn sn pc L (.int b :: .int a :: st) :=
  fun H locs ls h1 h2 h3 h4 => lv_ixor G.1 G.2.1 hd (k H locs ls h1 h2 h3 h4)
theorem v_irem {a b : Int32} (G : ok_ X Z y cc nL d mc ms) (hd : decode cc pc = .ok (.irem, 1)) (hn : ¬ b = 0) (k : V X Z M cn sn (pc + 1) L (.int (a - a / b * b) :: st)) : V X Z M cn sn pc L (.int b :: .int a :: st) :=
  fun H locs ls h1 h2 h3 h4 => lv_irem G.1 G.2.1 hd hn (k H locs ls h1 h2 h3 h4)
theorem v_ineg {a : Int32} (G : ok_ X Z y cc nL d mc ms) (hd : decode cc pc = .ok (.ineg, 1)) (k : V X Z M cn sn (pc + 1) L (.int (-a) :: st)) : V X Z M cn sn pc L (.int a :: st) :=
  fun H locs ls h1 h2 h3 h4 => lv_ineg G.1 G.2.1 hd (k H locs ls h1 h2 h3 h4)
theorem v_ladd {a b : Int64} (G : ok_ X Z y cc nL d mc ms) (hd : decode cc pc = .ok (.ladd, 1)) (k : V X Z M cn sn (pc + 1) L (.long (a + b) :: st)) : V X Z M cn sn pc L (.long b :: .long a :: st) :=
  fun H locs ls h1 h2 h3 h4 => lv_ladd G.1 G.2.1 hd (k H locs ls h1 h2 h3 h4)
theorem v_lsub {a b : Int64} (G : ok_ X Z y cc nL d mc ms) (hd : decode cc pc = .ok (.lsub, 1)) (k : V X Z M cn sn (pc + 1) L (.long (a - b) :: st)) : V X Z M cn sn pc L (.long b :: .long a :: st) :=
  fun H locs ls h1 h2 h3 h4 => lv_lsub G.1 G.2.1 hd (k H locs ls h1 h2 h3 h4)
theorem v_lmul {a b : Int64} (G : ok_ X Z y cc nL d mc ms) (hd : decode cc pc = .ok (.lmul, 1)) (k : V X Z M cn sn (pc + 1) L (.long (a * b) :: st)) : V X Z M cn sn pc L (.long b :: .long a :: st) :=
  fun H locs ls h1 h2 h3 h4 => lv_lmul G.1 G.2.1 hd (k H locs ls h1 h2 h3 h4)
theorem v_ldiv {a b : Int64} (G : ok_ X Z y cc nL d mc ms) (hd : decode cc pc = .ok (.ldiv, 1)) (hn : ¬ b = 0) (k : V X Z M cn sn (pc + 1) L (.long (a / b) :: st)) : V X Z M cn sn pc L (.long b :: .long a :: st) :=
  fun H locs ls h1 h2 h3 h4 => lv_ldiv G.1 G.2.1 hd hn (k H locs ls h1 h2 h3 h4)
theorem v_lrem {a b : Int64} (G : ok_ X Z y cc nL d mc ms) (hd : decode cc pc = .ok (.lrem, 1)) (hn : ¬ b = 0) (k : V X Z M cn sn (pc + 1) L (.long (a - a / b * b) :: st)) : V X Z M cn sn pc L (.long b :: .long a :: st) :=
  fun H locs ls h1 h2 h3 h4 => lv_lrem G.1 G.2.1 hd hn (k H locs ls h1 h2 h3 h4)
theorem v_lcmp {a b : Int64} (G : ok_ X Z y cc nL d mc ms) (hd : decode cc pc = .ok (.lcmp, 1)) (k : V X Z M cn sn (pc + 1) L (.int (lg_cmp a b) :: st)) : V X Z M cn sn pc L (.long b :: .long a :: st) :=
  fun H locs ls h1 h2 h3 h4 => W.lcmp G.1 G.2.1 hd (k H locs ls h1 h2 h3 h4)
theorem v_ishl {a b : Int32} (G : ok_ X Z y cc nL d mc ms) (hd : decode cc pc = .ok (.ishl, 1)) (k : V X Z M cn sn (pc + 1) L (.int (a <<< (b &&& 31)) :: st)) : V X Z M cn sn pc L (.int b :: .int a :: st) :=
  fun H locs ls h1 h2 h3 h4 => lv_ishl G.1 G.2.1 hd (k H locs ls h1 h2 h3 h4)
theorem v_ishr {a b : Int32} (G : ok_ X Z y cc nL d mc ms) (hd : decode cc pc = .ok (.ishr, 1)) (k : V X Z M cn sn (pc + 1) L (.int (a >>> (b &&& 31)) :: st)) : V X Z M cn sn pc L (.int b :: .int a :: st) :=
  fun H locs ls h1 h2 h3 h4 => lv_ishr G.1 G.2.1 hd (k H locs ls h1 h2 h3 h4)
def us_ (a b : Int32) : Int32 := (a.toUInt32 >>> (b.toUInt32 &&& Int32.toUInt32 31)).toInt32
theorem v_iushr {a b : Int32} (G : ok_ X Z y cc nL d mc ms) (hd : decode cc pc = .ok (.iushr, 1)) (k : V X Z M cn sn (pc + 1) L (.int (us_ a b) :: st)) : V X Z M cn sn pc L (.int b :: .int a :: st) :=
  fun H locs ls h1 h2 h3 h4 => lv_iushr G.1 G.2.1 hd rfl (k H locs ls h1 h2 h3 h4)
theorem v_i2l {a : Int32} (G : ok_ X Z y cc nL d mc ms) (hd : decode cc pc = .ok (.i2l, 1)) (k : V X Z M cn sn (pc + 1) L (.long a.toInt64 :: st)) : V X Z M cn sn pc L (.int a :: st) :=
  fun H locs ls h1 h2 h3 h4 => lv_i2l G.1 G.2.1 hd rfl (k H locs ls h1 h2 h3 h4)
theorem v_l2i {a : Int64} (G : ok_ X Z y cc nL d mc ms) (hd : decode cc pc = .ok (.l2i, 1)) (k : V X Z M cn sn (pc + 1) L (.int a.toInt32 :: st)) : V X Z M cn sn pc L (.long a :: st) :=
  fun H locs ls h1 h2 h3 h4 => lv_l2i G.1 G.2.1 hd rfl (k H locs ls h1 h2 h3 h4)
theorem v_i2b {a : Int32} (G : ok_ X Z y cc nL d mc ms) (hd : decode cc pc = .ok (.i2b, 1)) (k : V X Z M cn sn (pc + 1) L (.int a.toInt8.toInt32 :: st)) : V X Z M cn sn pc L (.int a :: st) :=
  fun H locs ls h1 h2 h3 h4 => lv_i2b G.1 G.2.1 hd rfl (k H locs ls h1 h2 h3 h4)
theorem v_i2s {a : Int32} (G : ok_ X Z y cc nL d mc ms) (hd : decode cc pc = .ok (.i2s, 1)) (k : V X Z M cn sn (pc + 1) L (.int a.toInt16.toInt32 :: st)) : V X Z M cn sn pc L (.int a :: st) :=
  fun H locs ls h1 h2 h3 h4 => lv_i2s G.1 G.2.1 hd rfl (k H locs ls h1 h2 h3 h4)
theorem v_dup {v : Value} (G : ok_ X Z y cc nL d mc ms) (hd : decode cc pc = .ok (.dup, 1)) (hv : v.category = 1) (k : V X Z M cn sn (pc + 1) L (v :: v :: st)) : V X Z M cn sn pc L (v :: st) :=
  fun H locs ls h1 h2 h3 h4 => lv_dup G.1 G.2.1 hd ((cv_cat Z v).trans hv) (k H locs ls h1 h2 h3 h4)
theorem v_dup2 {v w : Value} (G : ok_ X Z y cc nL d mc ms) (hd : decode cc pc = .ok (.dup2, 1)) (hv : v.category = 1) (hw : w.category = 1) (k : V X Z M cn sn (pc + 1) L (v :: w :: v :: w :: st)) : V X Z M cn sn pc L (v :: w :: st) :=
  fun H locs ls h1 h2 h3 h4 => lv_dup2_11 G.1 G.2.1 hd ((cv_cat Z v).trans hv) ((cv_cat Z w).trans hw) (k H locs ls h1 h2 h3 h4)
theorem v_dup2l {v : Value} (G : ok_ X Z y cc nL d mc ms) (hd : decode cc pc = .ok (.dup2, 1)) (hv : v.category = 2) (k : V X Z M cn sn (pc + 1) L (v :: v :: st)) : V X Z M cn sn pc L (v :: st) :=
  fun H locs ls h1 h2 h3 h4 => lv_dup2_2 G.1 G.2.1 hd ((cv_cat Z v).trans hv) (k H locs ls h1 h2 h3 h4)
theorem v_goto {o : Int} (t : Nat) (G : ok_ X Z y cc nL d mc ms) (hd : decode cc pc = .ok (.goto o, 3)) (ht : (pc : Int) + o = (t : Int)) (k : V X Z M cn sn t L st) : V X Z M cn sn pc L st :=
  fun H locs ls h1 h2 h3 h4 => lv_goto G.1 G.2.1 hd ht (k H locs ls h1 h2 h3 h4)
theorem v_if_eq {a : Int32} {o : Int} (t : Nat) (G : ok_ X Z y cc nL d mc ms) (hd : decode cc pc = .ok (.ifCond .eq o, 3)) (ht : (pc : Int) + o = (t : Int)) (kt : a = 0 → V X Z M cn sn t L st) (kf : ¬ a = 0 → V X Z M cn sn (pc + 3) L st) : V X Z M cn sn pc L (.int a :: st) :=
  fun H locs ls h1 h2 h3 h4 => lv_if_eq G.1 G.2.1 hd ht (fun q => kt q H locs ls h1 h2 h3 h4) (fun q => kf q H locs ls h1 h2 h3 h4)
theorem v_if_ne {a : Int32} {o : Int} (t : Nat) (G : ok_ X Z y cc nL d mc ms) (hd : decode cc pc = .ok (.ifCond .ne o, 3)) (ht : (pc : Int) + o = (t : Int)) (kt : ¬ a = 0 → V X Z M cn sn t L st) (kf : a = 0 → V X Z M cn sn (pc + 3) L st) : V X Z M cn sn pc L (.int a :: st) :=
  fun H locs ls h1 h2 h3 h4 => lv_if_ne G.1 G.2.1 hd ht (fun q => kt q H locs ls h1 h2 h3 h4) (fun q => kf q H locs ls h1 h2 h3 h4)
theorem v_if_lt {a : Int32} {o : Int} (t : Nat) (G : ok_ X Z y cc nL d mc ms) (hd : decode cc pc = .ok (.ifCond .lt o, 3)) (ht : (pc : Int) + o = (t : Int)) (kt : a < 0 → V X Z M cn sn t L st) (kf : ¬ a < 0 → V X Z M cn sn (pc + 3) L st) : V X Z M cn sn pc L (.int a :: st) :=
  fun H locs ls h1 h2 h3 h4 => lv_if_lt G.1 G.2.1 hd ht (fun q => kt q H locs ls h1 h2 h3 h4) (fun q => kf q H locs ls h1 h2 h3 h4)
theorem v_if_ge {a : Int32} {o : Int} (t : Nat) (G : ok_ X Z y cc nL d mc ms) (hd : decode cc pc = .ok (.ifCond .ge o, 3)) (ht : (pc : Int) + o = (t : Int)) (kt : 0 ≤ a → V X Z M cn sn t L st) (kf : ¬ 0 ≤ a → V X Z M cn sn (pc + 3) L st) : V X Z M cn sn pc L (.int a :: st) :=
  fun H locs ls h1 h2 h3 h4 => lv_if_ge G.1 G.2.1 hd ht (fun q => kt q H locs ls h1 h2 h3 h4) (fun q => kf q H locs ls h1 h2 h3 h4)
theorem v_if_gt {a : Int32} {o : Int} (t : Nat) (G : ok_ X Z y cc nL d mc ms) (hd : decode cc pc = .ok (.ifCond .gt o, 3)) (ht : (pc : Int) + o = (t : Int)) (kt : 0 < a → V X Z M cn sn t L st) (kf : ¬ 0 < a → V X Z M cn sn (pc + 3) L st) : V X Z M cn sn pc L (.int a :: st) :=
  fun H locs ls h1 h2 h3 h4 => lv_if_gt G.1 G.2.1 hd ht (fun q => kt q H locs ls h1 h2 h3 h4) (fun q => kf q H locs ls h1 h2 h3 h4)
theorem v_if_le {a : Int32} {o : Int} (t : Nat) (G : ok_ X Z y cc nL d mc ms) (hd : decode cc pc = .ok (.ifCond .le o, 3)) (ht : (pc : Int) + o = (t : Int)) (kt : a ≤ 0 → V X Z M cn sn t L st) (kf : ¬ a ≤ 0 → V X Z M cn sn (pc + 3) L st) : V X Z M cn sn pc L (.int a :: st) :=
  fun H locs ls h1 h2 h3 h4 => lv_if_le G.1 G.2.1 hd ht (fun q => kt q H locs ls h1 h2 h3 h4) (fun q => kf q H locs ls h1 h2 h3 h4)
theorem v_ic_eq {a b : Int32} {o : Int} (t : Nat) (G : ok_ X Z y cc nL d mc ms) (hd : decode cc pc = .ok (.if_icmp .eq o, 3)) (ht : (pc : Int) + o = (t : Int)) (kt : a = b → V X Z M cn sn t L st) (kf : ¬ a = b → V X Z M cn sn (pc + 3) L st) : V X Z M cn sn pc L (.int b :: .int a :: st) :=
  fun H locs ls h1 h2 h3 h4 => lv_icmp_eq G.1 G.2.1 hd ht (fun q => kt q H locs ls h1 h2 h3 h4) (fun q => kf q H locs ls h1 h2 h3 h4)
theorem v_ic_ne {a b : Int32} {o : Int} (t : Nat) (G : ok_ X Z y cc nL d mc ms) (hd : decode cc pc = .ok (.if_icmp .ne o, 3)) (ht : (pc : Int) + o = (t : Int)) (kt : ¬ a = b → V X Z M cn sn t L st) (kf : a = b → V X Z M cn sn (pc + 3) L st) : V X Z M cn sn pc L (.int b :: .int a :: st) :=
  fun H locs ls h1 h2 h3 h4 => lv_icmp_ne G.1 G.2.1 hd ht (fun q => kt q H locs ls h1 h2 h3 h4) (fun q => kf q H locs ls h1 h2 h3 h4)
theorem v_ic_lt {a b : Int32} {o : Int} (t : Nat) (G : ok_ X Z y cc nL d mc ms) (hd : decode cc pc = .ok (.if_icmp .lt o, 3)) (ht : (pc : Int) + o = (t : Int)) (kt : a < b → V X Z M cn sn t L st) (kf : ¬ a < b → V X Z M cn sn (pc + 3) L st) : V X Z M cn sn pc L (.int b :: .int a :: st) :=
  fun H locs ls h1 h2 h3 h4 => lv_icmp_lt G.1 G.2.1 hd ht (fun q => kt q H locs ls h1 h2 h3 h4) (fun q => kf q H locs ls h1 h2 h3 h4)
theorem v_ic_ge {a b : Int32} {o : Int} (t : Nat) (G : ok_ X Z y cc nL d mc ms) (hd : decode cc pc = .ok (.if_icmp .ge o, 3)) (ht : (pc : Int) + o = (t : Int)) (kt : b ≤ a → V X Z M cn sn t L st) (kf : ¬ b ≤ a → V X Z M cn sn (pc + 3) L st) : V X Z M cn sn pc L (.int b :: .int a :: st) :=
  fun H locs ls h1 h2 h3 h4 => lv_icmp_ge G.1 G.2.1 hd ht (fun q => kt q H locs ls h1 h2 h3 h4) (fun q => kf q H locs ls h1 h2 h3 h4)
theorem v_ic_gt {a b : Int32} {o : Int} (t : Nat) (G : ok_ X Z y cc nL d mc ms) (hd : decode cc pc = .ok (.if_icmp .gt o, 3)) (ht : (pc : Int) + o = (t : Int)) (kt : b < a → V X Z M cn sn t L st) (kf : ¬ b < a → V X Z M cn sn (pc + 3) L st) : V X Z M cn sn pc L (.int b :: .int a :: st) :=
  fun H locs ls h1 h2 h3 h4 => lv_icmp_gt G.1 G.2.1 hd ht (fun q => kt q H locs ls h1 h2 h3 h4) (fun q => kf q H locs ls h1 h2 h3 h4)
theorem v_ic_le {a b : Int32} {o : Int} (t : Nat) (G : ok_ X Z y cc nL d mc ms) (hd : decode cc pc = .ok (.if_icmp .le o, 3)) (ht : (pc : Int) + o = (t : Int)) (kt : a ≤ b → V X Z M cn sn t L st) (kf : ¬ a ≤ b → V X Z M cn sn (pc + 3) L st) : V X Z M cn sn pc L (.int b :: .int a :: st) :=
  fun H locs ls h1 h2 h3 h4 => lv_icmp_le G.1 G.2.1 hd ht (fun q => kt q H locs ls h1 h2 h3 h4) (fun q => kf q H locs ls h1 h2 h3 h4)
theorem v_nullF {o : Int} {a : Nat} (G : ok_ X Z y cc nL d mc ms) (hd : decode cc pc = .ok (.ifnull o, 3)) (k : V X Z M cn sn (pc + 3) L st) : V X Z M cn sn pc L (.ref a :: st) :=
  fun H locs ls h1 h2 h3 h4 => lv_ifnull G.1 G.2.1 hd (k H locs ls h1 h2 h3 h4)
theorem v_nullT {o : Int} (t : Nat) (G : ok_ X Z y cc nL d mc ms) (hd : decode cc pc = .ok (.ifnull o, 3)) (ht : (pc : Int) + o = (t : Int)) (k : V X Z M cn sn t L st) : V X Z M cn sn pc L (.null :: st) :=
  fun H locs ls h1 h2 h3 h4 => lv_ifnullN G.1 G.2.1 hd ht (k H locs ls h1 h2 h3 h4)
theorem v_tabI {dflt lo hi off : Int} {offs : Array Int} {len : Nat} {a : Int32} (t : Nat) (G : ok_ X Z y cc nL d mc ms) (hd : decode cc pc = .ok (.tableswitch dflt lo hi offs, len)) (hp1 : ¬ a.toInt < lo) (hp2 : ¬ hi < a.toInt) (ho : offs[(a.toInt - lo).toNat]? = some off) (ht : (pc : Int) + off = (t : Int)) (k : V X Z M cn sn t L st) : V X Z M cn sn pc L (.int a :: st) :=
  fun H locs ls h1 h2 h3 h4 => lv_tableIn G.1 G.2.1 hd hp1 hp2 ho ht (k H locs ls h1 h2 h3 h4)
theorem v_tabO {dflt lo hi : Int} {offs : Array Int} {len : Nat} {a : Int32} (t : Nat) (G : ok_ X Z y cc nL d mc ms) (hd : decode cc pc = .ok (.tableswitch dflt lo hi offs, len)) (hp : a.toInt < lo ∨ hi < a.toInt) (ht : (pc : Int) + dflt = (t : Int)) (k : V X Z M cn sn t L st) : V X Z M cn sn pc L (.int a :: st) :=
  fun H locs ls h1 h2 h3 h4 => lv_tableOut G.1 G.2.1 hd hp ht (k H locs ls h1 h2 h3 h4)
theorem v_look {dflt off : Int} {ps : Array (Int × Int)} {len : Nat} {a : Int32} (t : Nat) (G : ok_ X Z y cc nL d mc ms) (hd : decode cc pc = .ok (.lookupswitch dflt ps, len)) (hp : (ps.toList.zip (ps.toList.drop 1)).all (fun (a, next) => a.1 < next.1) = true) (ho : Op.lookupswitch.offset ps.toList dflt a.toInt = off) (ht : (pc : Int) + off = (t : Int)) (k : V X Z M cn sn t L st) : V X Z M cn sn pc L (.int a :: st) :=
  fun H locs ls h1 h2 h3 h4 => lv_lookup G.1 G.2.1 hd hp ho ht (k H locs ls h1 h2 h3 h4)
theorem i32_ne {x c : Int32} (h : ¬ x = c) : x.toInt ≠ c.toInt := fun e => h (Int32.toInt_inj.mp e)
end RL1
end
section
/-! ===== MEMORY: what the shallow functions do to it, and the rules of V for it ===== -/
def inB (i : Int32) (n : Nat) : Bool := decide (¬ (i < 0 ∨ n ≤ i.toNatClampNeg))
theorem inB_in {i : Int32} {n : Nat} (h : inB i n = true) : vp_in i n := by
  unfold inB at h
  unfold vp_in
  exact of_decide_eq_true h
def isO (M : mM) (a c : Nat) : Bool := decide (a < mz M) && decide (mk_ M a = (0, c))
def gI (M : mM) (a c f : Nat) : Option Int32 := if isO M a c then some (mi_ M a f) else none
def gR (M : mM) (a c f : Nat) : Option Nat := if isO M a c then mr_ M a f else none
def gN (M : mM) (a c f : Nat) : Bool := isO M a c && decide (mr_ M a f = none)
def pI (M : mM) (a c f : Nat) (v : Int32) : Option mM := if isO M a c then some (M.1, M.2.1, up2 (mi_ M) a f v, mr_ M) else none
def pR (M : mM) (a c f : Nat) (v : Nat) : Option mM := if isO M a c then some (M.1, M.2.1, mi_ M, up2 (mr_ M) a f (some v)) else none
def isA (M : mM) (a t : Nat) (i : Int32) : Bool := decide (a < mz M) && decide ((mk_ M a).1 = t) && inB i (mk_ M a).2
def ldI (M : mM) (a : Nat) (i : Int32) : Option Int32 := if isA M a 1 i then some (mi_ M a i.toNatClampNeg) else none
def stI (M : mM) (a : Nat) (i v : Int32) : Option mM := if isA M a 1 i then some (M.1, M.2.1, up2 (mi_ M) a i.toNatClampNeg v, mr_ M) else none
def ldZ (M : mM) (a : Nat) (i : Int32) : Option Int32 := if isA M a 2 i then some (mi_ M a i.toNatClampNeg) else none
def stZ (M : mM) (a : Nat) (i v : Int32) : Option mM := if isA M a 2 i && (v == 0 || v == 1) then some (M.1, M.2.1, up2 (mi_ M) a i.toNatClampNeg v, mr_ M) else none
def ldR (M : mM) (a t : Nat) (i : Int32) : Option Nat := if isA M a t i then mr_ M a i.toNatClampNeg else none
def stR (M : mM) (a t c : Nat) (i : Int32) (b : Nat) : Option mM := if isA M a t i && isO M b c then some (M.1, M.2.1, mi_ M, up2 (mr_ M) a i.toNatClampNeg (some b)) else none
def ldX (Z : zZ) (u : UInt32) (i : Int32) : Option Int32 := match xa Z u with
  | some q => if inB i q.1 then some (q.2 i.toNatClampNeg) else none
  | none => none
def cpI (M : mM) (a : Nat) (i : Int32) (b : Nat) (j n : Int32) : Option mM :=
  if decide (a < mz M) && decide ((mk_ M a).1 = 1) && decide (b < mz M) && decide ((mk_ M b).1 = 1) && decide (¬ i < 0) && decide (¬ j < 0) && decide (¬ n < 0) && decide (i.toNatClampNeg + n.toNatClampNeg ≤ (mk_ M a).2) && decide (j.toNatClampNeg + n.toNatClampNeg ≤ (mk_ M b).2)
  then some (M.1, M.2.1, fun k => if k = b then va_cpy (mi_ M a) (mi_ M b) i.toNatClampNeg j.toNatClampNeg n.toNatClampNeg else mi_ M k, mr_ M) else none
def nwC (M : mM) (k : Nat × Nat) : mM := (M.1 + 1, va_up (mk_ M) M.1 k, va_up (mi_ M) M.1 (fun _ => 0), va_up (mr_ M) M.1 (fun _ => none))
theorem isO_s {M : mM} {a c : Nat} (h : isO M a c = true) : a < mz M ∧ mk_ M a = (0, c) := by simpa [isO] using h
theorem isA_s {M : mM} {a t : Nat} {i : Int32} (h : isA M a t i = true) : a < mz M ∧ (mk_ M a).1 = t ∧ vp_in i (mk_ M a).2 := by
  simp only [isA, Bool.and_eq_true, decide_eq_true_eq] at h
  exact ⟨h.1.1, h.1.2, inB_in h.2⟩
theorem if_s {α : Type} {c : Prop} [Decidable c] {x : Option α} {v : α} (h : (if c then x else none) = some v) : c ∧ x = some v := by
  by_cases hc : c
  · rw [if_pos hc] at h; exact ⟨hc, h⟩
  · rw [if_neg hc] at h; cases h
def fl_ (Z : zZ) (M : mM) (c a : Nat) : List Value := (List.range (nF_ c)).map (fun j => if rF_ c j then va_rf ((mr_ M a j).map (ad Z)) else .int (mi_ M a j))
theorem ce_O {Z : zZ} {M : mM} {a c : Nat} (h : mk_ M a = (0, c)) : ce_ Z M a = .inr (c, fl_ Z M c a) := by
  unfold ce_ fl_
  rw [h]
  rfl
theorem ce_1 {Z : zZ} {M : mM} {a : Nat} (h : (mk_ M a).1 = 1) : ce_ Z M a = .inl ((zC Z).1, (mk_ M a).2, .inl (mi_ M a)) := by
  unfold ce_
  rw [h]
  rfl
theorem ce_2 {Z : zZ} {M : mM} {a : Nat} (h : (mk_ M a).1 = 2) : ce_ Z M a = .inl ((zC Z).2.1, (mk_ M a).2, .inl (mi_ M a)) := by
  unfold ce_
  rw [h]
  rfl
theorem ce_3 {Z : zZ} {M : mM} {a : Nat} (h : (mk_ M a).1 = 3) : ce_ Z M a = .inl ((zC Z).2.2.1, (mk_ M a).2, .inr (.inr (.inr (.inr (fun j => (mr_ M a j).map (ad Z)))))) := by
  unfold ce_
  rw [h]
  rfl
theorem ce_4 {Z : zZ} {M : mM} {a : Nat} (h : (mk_ M a).1 = 4) : ce_ Z M a = .inl ((zC Z).2.2.2, (mk_ M a).2, .inr (.inr (.inr (.inr (fun j => (mr_ M a j).map (ad Z)))))) := by
  unfold ce_
  rw [h]
  rfl
theorem ce_eq {Z : zZ} {M M' : mM} {j : Nat} (hk : mk_ M' j = mk_ M j) (hi : mi_ M' j = mi_ M j) (hr : mr_ M' j = mr_ M j) : ce_ Z M' j = ce_ Z M j := by
  unfold ce_
  rw [hk, hi, hr]
theorem fl_get {Z : zZ} {M : mM} {c a f : Nat} (hf : f < nF_ c) : (fl_ Z M c a)[f]? = some (if rF_ c f then va_rf ((mr_ M a f).map (ad Z)) else .int (mi_ M a f)) := by
  simp [fl_, List.getElem?_map, List.getElem?_range hf]
theorem fl_len {Z : zZ} {M : mM} {c a : Nat} : (fl_ Z M c a).length = nF_ c := by simp [fl_]
theorem fl_set {Z : zZ} {M M' : mM} {c a f : Nat} {v : Value} (hf : f < nF_ c) (hv : (if rF_ c f then va_rf ((mr_ M' a f).map (ad Z)) else .int (mi_ M' a f)) = v)
    (hi : ∀ j, j ≠ f → mi_ M' a j = mi_ M a j) (hr : ∀ j, j ≠ f → mr_ M' a j = mr_ M a j) : (fl_ Z M c a).set f v = fl_ Z M' c a := by
  apply List.ext_getElem?
  intro j
  by_cases hj : j = f
  · subst hj
    rw [List.getElem?_set_self (by rw [fl_len]; exact hf), fl_get hf, hv]
  · rw [List.getElem?_set_ne (Ne.symm hj)]
    by_cases hl : j < nF_ c
    · rw [fl_get hl, fl_get hl, hi j hj, hr j hj]
    · rw [List.getElem?_eq_none (by rw [fl_len]; omega), List.getElem?_eq_none (by rw [fl_len]; omega)]
theorem W_sz {p : Program} {l : Launch} {e : Env} {R : Room} {s : State} {m : MethodId} {args : Array Value} {below : List Frame} {meth : Method} {c : Code} {H : Heap} {locs : List Loc} {cells slots : Nat} {Q : State → Prop} {g : JFrame}
    (k : H.size ≤ s.heap.size + cells → W p l e R s m args below meth c H locs cells slots Q g) : W p l e R s m args below meth c H locs cells slots Q g :=
  fun T hT X => k (by rw [← hT]; exact X.heapSize) T hT X
/-- a class of the pool: its number, name, fields, what the tables say of it -/
def cls_ (ci : Nat) (C : String) (T : u_T) (N : Nat) (ty : Nat → FieldType) : Prop := vwCl[ci]? = some (C, T, N) ∧ nF_ ci = N ∧ (∀ w ∈ u_ws C T N, w ∈ TT) ∧ (∀ k, k < N → parseFieldDescriptor (T k).2.2.1 = some (ty k)) ∧
  (∀ a, a < N → ∀ b, b < N → a ≠ b → (T a).2.1 ≠ (T b).2.1) ∧ (∀ j, j < N → defaultValue (ty j) = if rF_ ci j then .null else .int 0) ∧ Cond.instantiable C N ∈ TT ∧ Cond.initialized C ∈ TT
section RL2
variable {X : xX} {Z : zZ} {M M' : mM} {y : MethodName} {cc : ByteArray} {nL d mc ms cn sn pc : Nat} {L : List (Option Value)} {st : List Value} {ci N : Nat} {C : String} {T : u_T} {ty : Nat → FieldType}
theorem v_getI {a i f : Nat} {v : Int32} (G : ok_ X Z y cc nL d mc ms) (B : cls_ ci C T N ty) (hd : decode cc pc = .ok (.getfield i, 3)) (hw : Cond.fieldLink y.cls i (T f).1 (T f).2.1 (T f).2.2.1 ∈ TT) (hf : f < N) (hr : rF_ ci f = false) (hg : gI M a ci f = some v) (k : V X Z M cn sn (pc + 3) L (.int v :: st)) : V X Z M cn sn pc L (.ref a :: st) := by
  intro H locs ls h1 h2 h3 h4
  obtain ⟨hO, hv⟩ := if_s hg
  obtain ⟨ha, hk⟩ := isO_s hO
  cases hv
  refine va_get (D := zD Z) (ci := ci) (v := .int (mi_ M a f)) (C := C) (T := T) (N := N) (ws := ws_ Z M) (a := ad Z a) (fs := fl_ Z M ci a) G.1 G.2.1 G.2.2.2.2.1 B.2.2.1 G.2.2.2.1 G.2.2.2.2.2.1.1 h2 a (by rw [ws_get ha, ce_O hk]) B.1 f hf (G.2.2.2.2.1 _ hw) (fun _ h => h) ?_ hd (k H locs ls h1 h2 h3 h4)
  rw [fl_get (by rw [B.2.1]; exact hf), hr]
  rfl
theorem v_getR {a i f b : Nat} (G : ok_ X Z y cc nL d mc ms) (B : cls_ ci C T N ty) (hd : decode cc pc = .ok (.getfield i, 3)) (hw : Cond.fieldLink y.cls i (T f).1 (T f).2.1 (T f).2.2.1 ∈ TT) (hf : f < N) (hr : rF_ ci f = true) (hg : gR M a ci f = some b) (k : V X Z M cn sn (pc + 3) L (.ref b :: st)) : V X Z M cn sn pc L (.ref a :: st) := by
  intro H locs ls h1 h2 h3 h4
  obtain ⟨hO, hv⟩ := if_s hg
  obtain ⟨ha, hk⟩ := isO_s hO
  refine va_get (D := zD Z) (ci := ci) (v := .ref (ad Z b)) (C := C) (T := T) (N := N) (ws := ws_ Z M) (a := ad Z a) (fs := fl_ Z M ci a) G.1 G.2.1 G.2.2.2.2.1 B.2.2.1 G.2.2.2.1 G.2.2.2.2.2.1.1 h2 a (by rw [ws_get ha, ce_O hk]) B.1 f hf (G.2.2.2.2.1 _ hw) (fun _ h => h) ?_ hd (k H locs ls h1 h2 h3 h4)
  rw [fl_get (by rw [B.2.1]; exact hf), hr, hv]
  rfl
theorem v_getN {a i f : Nat} (G : ok_ X Z y cc nL d mc ms) (B : cls_ ci C T N ty) (hd : decode cc pc = .ok (.getfield i, 3)) (hw : Cond.fieldLink y.cls i (T f).1 (T f).2.1 (T f).2.2.1 ∈ TT) (hf : f < N) (hr : rF_ ci f = true) (hg : gN M a ci f = true) (k : V X Z M cn sn (pc + 3) L (.null :: st)) : V X Z M cn sn pc L (.ref a :: st) := by
  intro H locs ls h1 h2 h3 h4
  simp only [gN, Bool.and_eq_true, decide_eq_true_eq] at hg
  obtain ⟨hO, hv⟩ := hg
  obtain ⟨ha, hk⟩ := isO_s hO
  refine va_get (D := zD Z) (ci := ci) (v := .null) (C := C) (T := T) (N := N) (ws := ws_ Z M) (a := ad Z a) (fs := fl_ Z M ci a) G.1 G.2.1 G.2.2.2.2.1 B.2.2.1 G.2.2.2.1 G.2.2.2.2.2.1.1 h2 a (by rw [ws_get ha, ce_O hk]) B.1 f hf (G.2.2.2.2.1 _ hw) (fun _ h => h) ?_ hd (k H locs ls h1 h2 h3 h4)
  rw [fl_get (by rw [B.2.1]; exact hf), hr, hv]
  rfl
theorem v_putI {a i f : Nat} {v : Int32} (G : ok_ X Z y cc nL d mc ms) (B : cls_ ci C T N ty) (hd : decode cc pc = .ok (.putfield i, 3)) (hw : Cond.fieldLink y.cls i (T f).1 (T f).2.1 (T f).2.2.1 ∈ TT) (hf : f < N) (hr : rF_ ci f = false) (hfin : (T f).2.2.2 = false) (hn : narrow (ty f) (.int v) = .int v) (hfit : fits (ty f) (.int v) = true) (hg : pI M a ci f v = some M') (k : V X Z M' cn sn (pc + 3) L st) : V X Z M cn sn pc L (.int v :: .ref a :: st) := by
  intro H locs ls h1 h2 h3 h4
  obtain ⟨hO, hv⟩ := if_s hg
  obtain ⟨ha, hk⟩ := isO_s hO
  have hM := Option.some.inj hv
  have hf' : f < nF_ ci := by rw [B.2.1]; exact hf
  have hset : (ws_ Z M).set a (ad Z a, .inr (ci, (fl_ Z M ci a).set f (.int v))) = ws_ Z M' := by
    refine ws_set (by rw [← hM]) ha ?_ (fun j hj => ?_)
    · rw [ce_O (c := ci) (by rw [← hM]; exact hk), fl_set (M' := M') hf' (by rw [hr, ← hM]; simp [mi_, mr_, up2]) (fun j hj => by rw [← hM]; simp [mi_, mr_, up2, hj]) (fun j hj => by rw [← hM])]
    · exact ce_eq (by rw [← hM]) (by rw [← hM]; funext q; simp [mi_, mr_, up2, hj]) (by rw [← hM])
  refine va_put (D := zD Z) (ci := ci) (v := .int v) (ty := ty f) (C := C) (T := T) (N := N) (ws := ws_ Z M) (a := ad Z a) (fs := fl_ Z M ci a) G.1 G.2.1 G.2.2.2.2.1 B.2.2.1 ty B.2.2.2.1 B.2.2.2.2.1 G.2.2.2.1 G.2.2.2.2.2.1.1 h2 (ws_D Z M) h3 a (by rw [ws_get ha, ce_O hk]) B.1 f hf (G.2.2.2.2.1 _ hw) (fun _ h => h) hfin (B.2.2.2.1 f hf) hn hfit (by rw [fl_len]; exact hf') hd (fun H1 locs1 q1 q2 q3 => ?_)
  rw [hset] at q1
  exact k H1 locs1 ls (by rw [← hM]; exact h1) q1 q3 h4
theorem v_putR {a i f b : Nat} (G : ok_ X Z y cc nL d mc ms) (B : cls_ ci C T N ty) (hd : decode cc pc = .ok (.putfield i, 3)) (hw : Cond.fieldLink y.cls i (T f).1 (T f).2.1 (T f).2.2.1 ∈ TT) (hf : f < N) (hr : rF_ ci f = true) (hfin : (T f).2.2.2 = false) (hn : ∀ q, narrow (ty f) (.ref q) = .ref q) (hfit : ∀ q, fits (ty f) (.ref q) = true) (hg : pR M a ci f b = some M') (k : V X Z M' cn sn (pc + 3) L st) : V X Z M cn sn pc L (.ref b :: .ref a :: st) := by
  intro H locs ls h1 h2 h3 h4
  obtain ⟨hO, hv⟩ := if_s hg
  obtain ⟨ha, hk⟩ := isO_s hO
  have hM := Option.some.inj hv
  have hf' : f < nF_ ci := by rw [B.2.1]; exact hf
  have hset : (ws_ Z M).set a (ad Z a, .inr (ci, (fl_ Z M ci a).set f (.ref (ad Z b)))) = ws_ Z M' := by
    refine ws_set (by rw [← hM]) ha ?_ (fun j hj => ?_)
    · rw [ce_O (c := ci) (by rw [← hM]; exact hk), fl_set (M' := M') hf' (by rw [hr, ← hM]; simp [mi_, mr_, up2, va_rf]) (fun j hj => by rw [← hM]) (fun j hj => by rw [← hM]; simp [mi_, mr_, up2, hj])]
    · exact ce_eq (by rw [← hM]) (by rw [← hM]) (by rw [← hM]; funext q; simp [mi_, mr_, up2, hj])
  refine va_put (D := zD Z) (ci := ci) (v := .ref (ad Z b)) (ty := ty f) (C := C) (T := T) (N := N) (ws := ws_ Z M) (a := ad Z a) (fs := fl_ Z M ci a) G.1 G.2.1 G.2.2.2.2.1 B.2.2.1 ty B.2.2.2.1 B.2.2.2.2.1 G.2.2.2.1 G.2.2.2.2.2.1.1 h2 (ws_D Z M) h3 a (by rw [ws_get ha, ce_O hk]) B.1 f hf (G.2.2.2.2.1 _ hw) (fun _ h => h) hfin (B.2.2.2.1 f hf) (hn _) (hfit _) (by rw [fl_len]; exact hf') hd (fun H1 locs1 q1 q2 q3 => ?_)
  rw [hset] at q1
  exact k H1 locs1 ls (by rw [← hM]; exact h1) q1 q3 h4
theorem v_putF {a i f b : Nat} (G : ok_ X Z y cc nL d mc ms) (B : cls_ ci C T N ty) (hd : decode cc pc = .ok (.putfield i, 3)) (hw : Cond.fieldLink y.cls i (T f).1 (T f).2.1 (T f).2.2.1 ∈ TT) (hf : f < N) (hr : rF_ ci f = true) (hfin : (T f).2.2.2 = true) (hin : y.name = "<init>") (hdc : (T f).1 = y.cls) (hn : ∀ q, narrow (ty f) (.ref q) = .ref q) (hfit : ∀ q, fits (ty f) (.ref q) = true) (hg : pR M a ci f b = some M') (k : V X Z M' cn sn (pc + 3) L st) : V X Z M cn sn pc L (.ref b :: .ref a :: st) := by
  intro H locs ls h1 h2 h3 h4
  obtain ⟨hO, hv⟩ := if_s hg
  obtain ⟨ha, hk⟩ := isO_s hO
  have hM := Option.some.inj hv
  have hf' : f < nF_ ci := by rw [B.2.1]; exact hf
  have hset : (ws_ Z M).set a (ad Z a, .inr (ci, (fl_ Z M ci a).set f (.ref (ad Z b)))) = ws_ Z M' := by
    refine ws_set (by rw [← hM]) ha ?_ (fun j hj => ?_)
    · rw [ce_O (c := ci) (by rw [← hM]; exact hk), fl_set (M' := M') hf' (by rw [hr, ← hM]; simp [mi_, mr_, up2, va_rf]) (fun j hj => by rw [← hM]) (fun j hj => by rw [← hM]; simp [mi_, mr_, up2, hj])]
    · exact ce_eq (by rw [← hM]) (by rw [← hM]) (by rw [← hM]; funext q; simp [mi_, mr_, up2, hj])
  refine va_putF (D := zD Z) (ci := ci) (v := .ref (ad Z b)) (ty := ty f) (C := C) (T := T) (N := N) (ws := ws_ Z M) (a := ad Z a) (fs := fl_ Z M ci a) G.1 G.2.1 G.2.2.2.2.1 B.2.2.1 ty B.2.2.2.1 B.2.2.2.2.1 G.2.2.2.1 G.2.2.2.2.2.1.1 h2 (ws_D Z M) h3 a (by rw [ws_get ha, ce_O hk]) B.1 f hf (G.2.2.2.2.1 _ hw) (fun _ h => h) hfin (G.2.2.2.2.2.2.2.2.trans hin) hdc (B.2.2.2.1 f hf) (hn _) (hfit _) (by rw [fl_len]; exact hf') hd (fun H1 locs1 q1 q2 q3 => ?_)
  rw [hset] at q1
  exact k H1 locs1 ls (by rw [← hM]; exact h1) q1 q3 h4
theorem v_iald {a : Nat} {i v : Int32} (G : ok_ X Z y cc nL d mc ms) (hd : decode cc pc = .ok (.iaload, 1)) (hg : ldI M a i = some v) (k : V X Z M cn sn (pc + 1) L (.int v :: st)) : V X Z M cn sn pc L (.int i :: .ref a :: st) := by
  intro H locs ls h1 h2 h3 h4
  obtain ⟨hA, hv⟩ := if_s hg
  obtain ⟨ha, hk, hi⟩ := isA_s hA
  cases hv
  exact va_iald (ws := ws_ Z M) (a := ad Z a) G.1 G.2.1 G.2.2.2.2.2.1.1 h2 a 0 (by rw [ws_get ha, ce_1 hk]) rfl hi hd (k H locs ls h1 h2 h3 h4)
theorem v_zald {a : Nat} {i v : Int32} (G : ok_ X Z y cc nL d mc ms) (hd : decode cc pc = .ok (.baload, 1)) (hg : ldZ M a i = some v) (k : V X Z M cn sn (pc + 1) L (.int v :: st)) : V X Z M cn sn pc L (.int i :: .ref a :: st) := by
  intro H locs ls h1 h2 h3 h4
  obtain ⟨hA, hv⟩ := if_s hg
  obtain ⟨ha, hk, hi⟩ := isA_s hA
  cases hv
  exact va_zald (ws := ws_ Z M) (a := ad Z a) G.1 G.2.1 G.2.2.2.2.2.1.1 h2 a 1 (by rw [ws_get ha, ce_2 hk]) rfl hi hd (k H locs ls h1 h2 h3 h4)
theorem v_xald {u : UInt32} {i v : Int32} (G : ok_ X Z y cc nL d mc ms) (hd : decode cc pc = .ok (.iaload, 1)) (hg : ldX Z u i = some v) (k : V X Z M cn sn (pc + 1) L (.int v :: st)) : V X Z M cn sn pc L (.int i :: .float u :: st) := by
  intro H locs ls h1 h2 h3 h4
  unfold ldX at hg
  cases hx : xa Z u with
  | none => rw [hx] at hg; cases hg
  | some q =>
    obtain ⟨n, f⟩ := q
    rw [hx] at hg
    obtain ⟨hA, hv⟩ := if_s hg
    cases hv
    exact va_ti G.1 G.2.1 (G.2.2.2.2.2.1.2.2.2.2.2.2 u n f hx) h3 (inB_in hA) rfl hd (k H locs ls h1 h2 h3 h4)
theorem v_iast {a : Nat} {i v : Int32} (G : ok_ X Z y cc nL d mc ms) (hd : decode cc pc = .ok (.iastore, 1)) (hg : stI M a i v = some M') (k : V X Z M' cn sn (pc + 1) L st) : V X Z M cn sn pc L (.int v :: .int i :: .ref a :: st) := by
  intro H locs ls h1 h2 h3 h4
  obtain ⟨hA, hv⟩ := if_s hg
  obtain ⟨ha, hk, hi⟩ := isA_s hA
  have hM := Option.some.inj hv
  refine va_iast (ws := ws_ Z M) (a := ad Z a) G.1 G.2.1 G.2.2.2.2.2.1.1 h2 (ws_D Z M) h3 a 0 (by rw [ws_get ha, ce_1 hk]) rfl hi hd (fun H1 locs1 q1 q2 q3 => ?_)
  rw [ws_set (M' := M') (by rw [← hM]) ha (by rw [ce_1 (M := M') (by rw [← hM]; exact hk), ← hM]; congr 4; funext q; simp [mi_, mr_, up2, upd]) (fun j hj => ce_eq (by rw [← hM]) (by rw [← hM]; funext q; simp [mi_, mr_, up2, hj]) (by rw [← hM]))] at q1
  exact k H1 locs1 ls (by rw [← hM]; exact h1) q1 q3 h4
theorem v_zast {a : Nat} {i v : Int32} (G : ok_ X Z y cc nL d mc ms) (hd : decode cc pc = .ok (.bastore, 1)) (hg : stZ M a i v = some M') (k : V X Z M' cn sn (pc + 1) L st) : V X Z M cn sn pc L (.int v :: .int i :: .ref a :: st) := by
  intro H locs ls h1 h2 h3 h4
  obtain ⟨hA, hv⟩ := if_s hg
  rw [Bool.and_eq_true] at hA
  obtain ⟨hA, hb⟩ := hA
  obtain ⟨ha, hk, hi⟩ := isA_s hA
  have hM := Option.some.inj hv
  have hn : vp_nar .boolean v = v := by
    simp only [Bool.or_eq_true, beq_iff_eq] at hb
    rcases hb with rfl | rfl <;> decide
  refine va_zast (ws := ws_ Z M) (a := ad Z a) G.1 G.2.1 G.2.2.2.2.2.1.1 h2 (ws_D Z M) h3 a 1 (by rw [ws_get ha, ce_2 hk]) rfl hi hd (fun H1 locs1 q1 q2 q3 => ?_)
  rw [hn, ws_set (M' := M') (by rw [← hM]) ha (by rw [ce_2 (M := M') (by rw [← hM]; exact hk), ← hM]; congr 4; funext q; simp [mi_, mr_, up2, upd]) (fun j hj => ce_eq (by rw [← hM]) (by rw [← hM]; funext q; simp [mi_, mr_, up2, hj]) (by rw [← hM]))] at q1
  exact k H1 locs1 ls (by rw [← hM]; exact h1) q1 q3 h4
theorem v_aald3 {a b : Nat} {i : Int32} (G : ok_ X Z y cc nL d mc ms) (hd : decode cc pc = .ok (.aaload, 1)) (hg : ldR M a 3 i = some b) (k : V X Z M cn sn (pc + 1) L (.ref b :: st)) : V X Z M cn sn pc L (.int i :: .ref a :: st) := by
  intro H locs ls h1 h2 h3 h4
  obtain ⟨hA, hv⟩ := if_s hg
  obtain ⟨ha, hk, hi⟩ := isA_s hA
  refine va_aldq (ws := ws_ Z M) (a := ad Z a) (C := RX4) G.1 G.2.1 G.2.2.2.2.2.1.1 h2 a 2 (by rw [ws_get ha, ce_3 hk]) rfl hi hd ?_
  rw [hv]
  exact k H locs ls h1 h2 h3 h4
theorem v_aald4 {a b : Nat} {i : Int32} (G : ok_ X Z y cc nL d mc ms) (hd : decode cc pc = .ok (.aaload, 1)) (hg : ldR M a 4 i = some b) (k : V X Z M cn sn (pc + 1) L (.ref b :: st)) : V X Z M cn sn pc L (.int i :: .ref a :: st) := by
  intro H locs ls h1 h2 h3 h4
  obtain ⟨hA, hv⟩ := if_s hg
  obtain ⟨ha, hk, hi⟩ := isA_s hA
  refine va_aldq (ws := ws_ Z M) (a := ad Z a) (C := RX5) G.1 G.2.1 G.2.2.2.2.2.1.1 h2 a 3 (by rw [ws_get ha, ce_4 hk]) rfl hi hd ?_
  rw [hv]
  exact k H locs ls h1 h2 h3 h4
theorem v_aast3 {a b : Nat} {i : Int32} (G : ok_ X Z y cc nL d mc ms) (hd : decode cc pc = .ok (.aastore, 1)) (hg : stR M a 3 4 i b = some M') (k : V X Z M' cn sn (pc + 1) L st) : V X Z M cn sn pc L (.ref b :: .int i :: .ref a :: st) := by
  intro H locs ls h1 h2 h3 h4
  obtain ⟨hA, hv⟩ := if_s hg
  rw [Bool.and_eq_true] at hA
  obtain ⟨hA, hb⟩ := hA
  obtain ⟨ha, hk, hi⟩ := isA_s hA
  obtain ⟨hb1, hb2⟩ := isO_s hb
  have hM := Option.some.inj hv
  refine va_astq (ws := ws_ Z M) (a := ad Z a) (r := (RX4, TX4, 4)) (v := ad Z b) G.1 G.2.1 G.2.2.2.2.2.1.1 h2 (ws_D Z M) h3 a 2 b 4 (by rw [ws_get ha, ce_3 hk]) rfl (by rw [ws_get hb1, ce_O hb2]) rfl hi hd (fun H1 locs1 q1 q2 q3 => ?_)
  rw [ws_set (M' := M') (by rw [← hM]) ha (by rw [ce_3 (M := M') (by rw [← hM]; exact hk), ← hM]; congr 7; funext q; by_cases hq : q = i.toNatClampNeg <;> simp [mi_, mr_, up2, va_up, hq]) (fun j hj => ce_eq (by rw [← hM]) (by rw [← hM]) (by rw [← hM]; funext q; simp [mi_, mr_, up2, hj]))] at q1
  exact k H1 locs1 ls (by rw [← hM]; exact h1) q1 q3 h4
theorem v_aast4 {a b : Nat} {i : Int32} (G : ok_ X Z y cc nL d mc ms) (hd : decode cc pc = .ok (.aastore, 1)) (hg : stR M a 4 5 i b = some M') (k : V X Z M' cn sn (pc + 1) L st) : V X Z M cn sn pc L (.ref b :: .int i :: .ref a :: st) := by
  intro H locs ls h1 h2 h3 h4
  obtain ⟨hA, hv⟩ := if_s hg
  rw [Bool.and_eq_true] at hA
  obtain ⟨hA, hb⟩ := hA
  obtain ⟨ha, hk, hi⟩ := isA_s hA
  obtain ⟨hb1, hb2⟩ := isO_s hb
  have hM := Option.some.inj hv
  refine va_astq (ws := ws_ Z M) (a := ad Z a) (r := (RX5, TX5, 11)) (v := ad Z b) G.1 G.2.1 G.2.2.2.2.2.1.1 h2 (ws_D Z M) h3 a 3 b 5 (by rw [ws_get ha, ce_4 hk]) rfl (by rw [ws_get hb1, ce_O hb2]) rfl hi hd (fun H1 locs1 q1 q2 q3 => ?_)
  rw [ws_set (M' := M') (by rw [← hM]) ha (by rw [ce_4 (M := M') (by rw [← hM]; exact hk), ← hM]; congr 7; funext q; by_cases hq : q = i.toNatClampNeg <;> simp [mi_, mr_, up2, va_up, hq]) (fun j hj => ce_eq (by rw [← hM]) (by rw [← hM]) (by rw [← hM]; funext q; simp [mi_, mr_, up2, hj]))] at q1
  exact k H1 locs1 ls (by rw [← hM]; exact h1) q1 q3 h4
theorem v_xlen (G : ok_ X Z y cc nL d mc ms) (hd : decode cc pc = .ok (.arraylength, 1)) (k : V X Z M cn sn (pc + 1) L (.int (nI (zL Z)) :: st)) : V X Z M cn sn pc L (.float 2 :: st) := by
  intro H locs ls h1 h2 h3 h4
  obtain ⟨cell, q1, q2, q3, q4, q5, q6, q7⟩ := G.2.2.2.2.2.1.2.2.2.2.2.2 2 (zL Z) (zx Z) rfl
  exact W.alen G.1 G.2.1 (by rw [h3.2.1 _ (Array.getElem?_eq_some_iff.mp q1).1 q7]; exact q1) q2 q5 rfl rfl hd (k H locs ls h1 h2 h3 h4)
theorem v_gets0 {i : Nat} (G : ok_ X Z y cc nL d mc ms) (hd : decode cc pc = .ok (.getstatic i, 3)) (hw : Cond.fieldLink y.cls i RX1 "SIZE_BODIES" "[I" ∈ TT) (k : V X Z M cn sn (pc + 3) L (.float 0 :: st)) : V X Z M cn sn pc L st :=
  fun H locs ls h1 h2 h3 h4 => va_gets G.1 G.2.1 G.2.2.2.2.2.1.2.2.2.2.1 h3 G.2.2.2.1 (G.2.2.2.2.1 _ hw) (fun _ h => h) hd (k H locs ls h1 h2 h3 h4)
theorem v_gets1 {i : Nat} (G : ok_ X Z y cc nL d mc ms) (hd : decode cc pc = .ok (.getstatic i, 3)) (hw : Cond.fieldLink y.cls i RX1 "MARK_BODIES" "[I" ∈ TT) (k : V X Z M cn sn (pc + 3) L (.float 1 :: st)) : V X Z M cn sn pc L st :=
  fun H locs ls h1 h2 h3 h4 => va_gets G.1 G.2.1 G.2.2.2.2.2.1.2.2.2.2.2.1 h3 G.2.2.2.1 (G.2.2.2.2.1 _ hw) (fun _ h => h) hd (k H locs ls h1 h2 h3 h4)
end RL2
end
section
/-! ===== CALLS, NEW CELLS, RETURNS ===== -/
def EP (Z : zZ) (As : List Value) (M : mM) : Array Value → State → Prop := va_Pc (As.map (cv Z)) (fun U => U.heap.size = zB Z + mz M ∧ va_P (zD Z) vwCl (ws_ Z M) U.heap ∧ KK Z U)
def EQ_ (Z : zZ) (M M' : mM) (r : Option Value) (mc : Nat) : Array Value → State → Outcome → State → Prop := fun _ s oc t => oc = .returned (r.map (cv Z)) ∧ va_P (zD Z) vwCl (ws_ Z M') t.heap ∧ mz M' = mz M + mc ∧ va_F (zA Z) s t
/-- a method's contract: from memory M with the arguments As it comes to M' and answers r -/
def EM (Z : zZ) (y : MethodName) (cc : ByteArray) (nL : Nat) (ret : Option FieldType) (d mc ms : Nat) (As : List Value) (M M' : mM) (r : Option Value) : Prop :=
  Met (zl Z) y (.code y cc nL ret :: TT) { frames := d, cells := mc, slots := ms, locals := 64 * d } (EP Z As M) (EQ_ Z M M' r mc) mc ms (zA Z)
/-- what the tables say of a method -/
def my_ (y : MethodName) (cc : ByteArray) (nL : Nat) (ret : Option FieldType) (n : Nat) : Prop := plainName y.cls = true ∧ (y.cls ≠ "java/lang/invoke/MethodHandle" ∧ y.cls ≠ "java/lang/invoke/VarHandle" ∧ (parseMethodDescriptor y.desc).map (fun d => d.parameters.length) = some n) ∧ Cond.code y cc nL ret ∈ TT ∧ Cond.initialized y.cls ∈ TT ∧ nL ≤ 40
def fin_ (X : xX) (Z : zZ) (M M' : mM) (r : Option Value) (ret : Option FieldType) (mc ms : Nat) : Prop := xQ X = MQ (xb X) (EQ_ Z M M' r mc) (xa_ X) (xs_ X) mc ms (zA Z) ∧ (xt X).sig.returnType = ret ∧ (xt X).locks = false ∧ (xs_ X).heap.size = zB Z + mz M
def enl (As : List Value) : List (Option Value) := As.flatMap (fun v => if v.category = 2 then [some v, none] else [some v])
def en_ (nL : Nat) (As : List Value) : List (Option Value) := enl As ++ List.replicate (nL - (enl As).length) none
theorem enl_len (Z : zZ) (As : List Value) : (lg_sl (As.map (cv Z))).length = (enl As).length := by
  induction As with
  | nil => rfl
  | cons a As ih =>
    simp only [enl, lg_sl, List.map_cons, List.flatMap_cons, List.length_append] at ih ⊢
    rw [ih, cv_cat]
    by_cases h : a.category = 2 <;> simp [h]
theorem enl_get (Z : zZ) : ∀ (As : List Value) (i : Nat) (v : Value), (enl As)[i]? = some (some v) → (lg_sl (As.map (cv Z)))[i]? = some (.val (cv Z v))
  | [], i, v, h => by simp [enl] at h
  | a :: As, i, v, h => by
    have ih := enl_get Z As
    simp only [enl, lg_sl, List.map_cons, List.flatMap_cons] at ih h ⊢
    rw [cv_cat]
    by_cases hc : a.category = 2
    · rw [if_pos hc] at h ⊢
      match i, h with
      | 0, h => simp at h; subst h; rfl
      | 1, h => simp at h
      | i + 2, h => exact ih i v h
    · rw [if_neg hc] at h ⊢
      match i, h with
      | 0, h => simp at h; subst h; rfl
      | i + 1, h => exact ih i v h
theorem EM_of {Z : zZ} {y : MethodName} {cc : ByteArray} {nL n d mc ms : Nat} {ret : Option FieldType} {As : List Value} {M M' : mM} {r : Option Value} (hm : my_ y cc nL ret n) (hlen : (enl As).length ≤ nL)
    (body : ∀ X : xX, ok_ X Z y cc nL d mc ms → fin_ X Z M M' r ret mc ms → V X Z M 0 0 0 (en_ nL As) []) : EM Z y cc nL ret d mc ms As M M' r := by
  refine Met.ofW (cc := cc) (maxL := nL) (ret := ret) hm.1 rfl ?_
  intro p e s m args below meth c s₁ B hml hv
  obtain ⟨rfl, hsz, hP, hK⟩ := hv
  have hts := atoms_spec (ws := .code y cc nL ret :: TT) B.pre
  have hown : s.vm.findClass y.cls = some m.cls := findClass_of_methodNamed B.named
  have hnm : meth.name = y.name := (name_of_methodNamed B.named B.method).1
  have hb := body (p, e, { frames := d, cells := mc, slots := ms, locals := 64 * d }, s, m, (As.map (cv Z)).toArray, below, meth, c, MQ below (EQ_ Z M M' r mc) (As.map (cv Z)).toArray s mc ms (zA Z))
    ⟨B.exec, B.bytes, hml, hown, fun w hw => hts w (List.mem_cons_of_mem _ hw), hK, by show zB Z ≤ s.heap.size; omega, ⟨Nat.le_refl _, Nat.le_refl _, Nat.le_refl _, Nat.le_refl _⟩, hnm⟩
    ⟨rfl, B.returns, B.notSynchronized, hsz⟩
  have hl := lv_entry (As.map (cv Z)) (n := nL) (by rw [enl_len]; exact hlen)
  rw [lg_entry_eq]
  refine hb s.heap [] _ (by show zB Z + mz M = s.heap.size + 0; omega) hP va_S.rf ⟨?_, hl.2.1, fun i v hi => ?_⟩
  · rw [hl.1]
    simp [en_]
    omega
  · have hi' : i < (enl As).length := by
      apply Nat.lt_of_not_le
      intro hq
      rw [en_, List.getElem?_append_right hq] at hi
      have := List.mem_of_getElem? hi
      simp at this
    rw [en_, List.getElem?_append_left hi'] at hi
    rw [List.getElem?_toArray, List.getElem?_append_left (by rw [enl_len]; exact hi')]
    exact enl_get Z As i v hi
section RL3
variable {X : xX} {Z : zZ} {M M0 M1 M' : mM} {y y' : MethodName} {cc cc' : ByteArray} {nL nL' n' d d' mc ms mc' ms' cn sn pc : Nat} {L : List (Option Value)} {st st0 : List Value} {ci N : Nat} {C : String} {T : u_T} {ty : Nat → FieldType} {ret ret' : Option FieldType} {r : Option Value} {As : List Value}
theorem sz_of {H : Heap} {locs : List Loc} {s : State} (h0 : zB Z ≤ s.heap.size) (h1 : zB Z + mz M = s.heap.size + cn) (h2 : va_P (zD Z) vwCl (ws_ Z M) H) (h3 : va_S (zA Z) s.heap H locs) (hu : H.size ≤ s.heap.size + cn) : H.size = zB Z + mz M := by
  have hz := h3.1
  by_cases hm : mz M = 0
  · omega
  · have hl := (h2 (mz M - 1) _ (ws_get (by omega))).lt
    simp only [ad] at hl
    omega
/-- behind a call -/
theorem v_run {H : Heap} {locs : List Loc} {ls : Array Slot} {a : Array Value} (h0 : zB Z ≤ (xs_ X).heap.size) (h1 : zB Z + mz M = (xs_ X).heap.size + cn) (h3 : va_S (zA Z) (xs_ X).heap H locs) (h4 : lvh Z ls L)
    (hr : va_Run (xp X) (zl Z) (xe X) (xR X) (xs_ X) (xm X) (xa_ X) (xb X) (xt X) (xc X) H locs cn sn mc' ms' (F0 (xm X) pc ls st0) (st.map (cv Z)) (EQ_ Z M M1 r mc' a) (zA Z))
    (k : V X Z M1 (cn + mc') (sn + ms') (pc + 3) L (r.toList ++ st)) : W (xp X) (zl Z) (xe X) (xR X) (xs_ X) (xm X) (xa_ X) (xb X) (xt X) (xc X) H locs cn sn (xQ X) (F0 (xm X) pc ls st0) := by
  intro T hT S
  obtain ⟨v, st₀, t, T', L', e0, S', hL, e1, e2, ⟨hv, hP, hz, hF⟩, g⟩ := hr T hT S
  cases hv
  unfold va_F at hF
  rw [e0] at hF
  have hst : (List.map (cv Z) (r.toList ++ st)) = (Option.map (cv Z) r).toList ++ st.map (cv Z) := by cases r <;> rfl
  obtain ⟨t2, a1, b1⟩ := k T'.heap (locs ++ L') ls (by rw [hz]; omega) (by rw [e1]; exact hP) ⟨Nat.le_trans h3.1 (by rw [e1]; exact hF.1), fun q g1 g2 => by
      rw [e1, hF.2 q (Nat.lt_of_lt_of_le g1 h3.1) g2]
      exact h3.2.1 q g1 g2, fun q hq => by
      rcases List.mem_append.mp hq with h | h
      · exact h3.2.2 q h
      · exact hL q h⟩ h4 T' rfl S'
  rw [hst] at a1
  exact ⟨t2, g t2 a1, b1⟩
theorem pre_of {H : Heap} {locs : List Loc} (G : ok_ X Z y cc nL d mc ms) (hsz : H.size = zB Z + mz M) (h2 : va_P (zD Z) vwCl (ws_ Z M) H) (h3 : va_S (zA Z) (xs_ X).heap H locs) : ∀ U : State, U.heap = H → (xs_ X).WarmedH U.vm → EP Z As M (As.map (cv Z)).toArray U := fun U hU hW =>
  ⟨rfl, by rw [hU]; exact hsz, by rw [hU]; exact h2, G.2.2.2.2.2.1.moved hW (fun a g1 g2 => by rw [hU]; exact h3.2.1 a g1 g2)⟩
theorem blind_ : FrameBlind (EP Z As M) := fun a U g mk q => ⟨q.1, q.2.1, q.2.2.1, q.2.2.2.calling⟩
theorem goodT (hm : my_ y' cc' nL' ret' n') : GoodIn TT (Cond.code y' cc' nL' ret' :: TT) := tt_good (fun w hw => by
  rcases List.mem_cons.mp hw with rfl | h
  · exact hm.2.2.1
  · exact h) (fun w h => h)
theorem room_of (G : ok_ X Z y cc nL d mc ms) (hm : my_ y' cc' nL' ret' n') (hd : d' + 1 ≤ d) : d' + 1 ≤ (xR X).frames ∧ 8 + (nL' + 11) + 64 * d' ≤ (xR X).locals := by
  have h1 := G.2.2.2.2.2.2.2.1
  have h2 := hm.2.2.2.2
  omega
theorem v_callS {i : Nat} (E : EM Z y' cc' nL' ret' d' mc' ms' As M M1 r) (G : ok_ X Z y cc nL d mc ms) (hm : my_ y' cc' nL' ret' As.length) (hs : Cond.static y' ∈ TT) (hl : Cond.methodLink y.cls i y' ∈ TT) (hd : decode cc pc = .ok (.invokestatic i, 3)) (hst : st0 = As.reverse ++ st) (hc : ((st.map (cv Z)).map fun v => v.category).sum ≤ 8) (hL : L.length = nL)
    (hdd : d' + 1 ≤ d) (hcc : cn + mc' ≤ mc) (hss : sn + ms' ≤ ms) (k : V X Z M1 (cn + mc') (sn + ms') (pc + 3) L (r.toList ++ st)) : V X Z M cn sn pc L st0 := by
  intro H locs ls h1 h2 h3 h4
  refine W_sz fun hu => ?_
  have hsz := sz_of G.2.2.2.2.2.2.1 h1 h2 h3 hu
  have hR := G.2.2.2.2.2.2.2.1
  refine v_run (a := (As.map (cv Z)).toArray) G.2.2.2.2.2.2.1 h1 h3 h4 (va_runS (As := As.map (cv Z)) (Ts := TT) (own := y.cls) ⟨G.1, G.2.1, G.2.2.1, G.2.2.2.1, G.2.2.2.2.1⟩ E ⟨callB_of As.length G.2.2.2.2.1 (goodT hm) rfl rfl rfl (G.2.2.2.2.1 _ hm.2.2.2.1) (G.2.2.2.2.1 _ hl) hm.2.1 (room_of G hm hdd), G.2.2.2.2.1 _ hs⟩
    ⟨blind_, pre_of G hsz h2 h3⟩ rfl (by simp) (h4.1.trans hL) (by rw [hst]; simp) (lv_room hc) hd ⟨by omega, by omega⟩) k
theorem v_callSN {i : Nat} {host : String} (E : EM Z y' cc' nL' ret' d' mc' ms' As M M1 r) (G : ok_ X Z y cc nL d mc ms) (hm : my_ y' cc' nL' ret' As.length) (hs : Cond.static y' ∈ TT) (hl : Cond.methodLinkNest y.cls i y' host ∈ nw_) (hd : decode cc pc = .ok (.invokestatic i, 3)) (hst : st0 = As.reverse ++ st) (hc : ((st.map (cv Z)).map fun v => v.category).sum ≤ 8) (hL : L.length = nL)
    (hdd : d' + 1 ≤ d) (hcc : cn + mc' ≤ mc) (hss : sn + ms' ≤ ms) (k : V X Z M1 (cn + mc') (sn + ms') (pc + 3) L (r.toList ++ st)) : V X Z M cn sn pc L st0 := by
  intro H locs ls h1 h2 h3 h4
  refine W_sz fun hu => ?_
  have hsz := sz_of G.2.2.2.2.2.2.1 h1 h2 h3 hu
  have hR := G.2.2.2.2.2.2.2.1
  refine v_run (a := (As.map (cv Z)).toArray) G.2.2.2.2.2.2.1 h1 h3 h4 (va_runSN (As := As.map (cv Z)) (Ts := TT) (own := y.cls) (host := host) ⟨G.1, G.2.1, G.2.2.1, G.2.2.2.1, G.2.2.2.2.1⟩ E ⟨va_cnB As.length G.2.2.2.2.1 (goodT hm) rfl rfl rfl (G.2.2.2.2.2.1.2.1 _ hl) (G.2.2.2.2.1 _ hm.2.2.2.1) hm.2.1 (room_of G hm hdd), G.2.2.2.2.1 _ hs, trivial⟩
    ⟨blind_, pre_of G hsz h2 h3⟩ rfl (by simp) (h4.1.trans hL) (by rw [hst]; simp) (lv_room hc) hd ⟨by omega, by omega⟩) k
theorem v_callV {i b : Nat} (E : EM Z y' cc' nL' ret' d' mc' ms' (.ref b :: As) M M1 r) (G : ok_ X Z y cc nL d mc ms) (B : cls_ ci C T N ty) (hm : my_ y' cc' nL' ret' As.length) (hcl : y'.cls = C) (hs : Cond.instanceMethod y' ∈ TT) (hse : Cond.selects C y' y' ∈ TT) (hl : Cond.methodLink y.cls i y' ∈ TT) (hd : decode cc pc = .ok (.invokevirtual i, 3)) (hO : isO M b ci = true) (hst : st0 = As.reverse ++ .ref b :: st) (hc : ((st.map (cv Z)).map fun v => v.category).sum ≤ 8) (hL : L.length = nL)
    (hdd : d' + 1 ≤ d) (hcc : cn + mc' ≤ mc) (hss : sn + ms' ≤ ms) (k : V X Z M1 (cn + mc') (sn + ms') (pc + 3) L (r.toList ++ st)) : V X Z M cn sn pc L st0 := by
  intro H locs ls h1 h2 h3 h4
  refine W_sz fun hu => ?_
  have hsz := sz_of G.2.2.2.2.2.2.1 h1 h2 h3 hu
  have hR := G.2.2.2.2.2.2.2.1
  obtain ⟨ha, hk⟩ := isO_s hO
  have hrec := va_recv G.2.2.2.2.2.1.1 h2 B.1 (show (ws_ Z M)[b]? = some (ad Z b, .inr (ci, fl_ Z M ci b)) by rw [ws_get ha, ce_O hk])
  refine v_run (a := (Value.ref (ad Z b) :: As.map (cv Z)).toArray) G.2.2.2.2.2.2.1 h1 h3 h4 (va_runV (As := As.map (cv Z)) (b := ad Z b) (C := C) (Ts := TT) (own := y.cls) ⟨G.1, G.2.1, G.2.2.1, G.2.2.2.1, G.2.2.2.2.1⟩ E ⟨callB_of As.length G.2.2.2.2.1 (goodT hm) rfl rfl rfl (G.2.2.2.2.1 _ hm.2.2.2.1) (G.2.2.2.2.1 _ hl) hm.2.1 (room_of G hm hdd), G.2.2.2.2.1 _ hs, G.2.2.2.2.1 _ hse⟩
    ⟨blind_, hrec, pre_of G hsz h2 h3⟩ rfl (by simp) (h4.1.trans hL) (by rw [hst]; simp [cv]) (lv_room hc) hd ⟨by omega, by omega⟩) k
theorem v_callI {i b : Nat} (E : EM Z y' cc' nL' none d' mc' ms' (.ref b :: As) M M1 r) (G : ok_ X Z y cc nL d mc ms) (hm : my_ y' cc' nL' none As.length) (hnm : y'.name = "<init>") (hs : Cond.instanceMethod y' ∈ TT) (hl : Cond.methodLink y.cls i y' ∈ TT) (hd : decode cc pc = .ok (.invokespecial i, 3)) (hst : st0 = As.reverse ++ .ref b :: st) (hc : ((st.map (cv Z)).map fun v => v.category).sum ≤ 8) (hL : L.length = nL)
    (hdd : d' + 1 ≤ d) (hcc : cn + mc' ≤ mc) (hss : sn + ms' ≤ ms) (k : V X Z M1 (cn + mc') (sn + ms') (pc + 3) L (r.toList ++ st)) : V X Z M cn sn pc L st0 := by
  intro H locs ls h1 h2 h3 h4
  refine W_sz fun hu => ?_
  have hsz := sz_of G.2.2.2.2.2.2.1 h1 h2 h3 hu
  have hR := G.2.2.2.2.2.2.2.1
  refine v_run (a := (Value.ref (ad Z b) :: As.map (cv Z)).toArray) G.2.2.2.2.2.2.1 h1 h3 h4 (va_runI (As := As.map (cv Z)) (b := ad Z b) (Ts := TT) (own := y.cls) ⟨G.1, G.2.1, G.2.2.1, G.2.2.2.1, G.2.2.2.2.1⟩ E ⟨callB_of As.length G.2.2.2.2.1 (goodT hm) rfl rfl rfl (G.2.2.2.2.1 _ hm.2.2.2.1) (G.2.2.2.2.1 _ hl) hm.2.1 (room_of G hm hdd), hnm, G.2.2.2.2.1 _ hs⟩
    ⟨blind_, pre_of G hsz h2 h3⟩ rfl (by simp) (h4.1.trans hL) (by rw [hst]; simp [cv]) (lv_room hc) hd ⟨by omega, by omega⟩) k
theorem v_callIN {i b : Nat} {host : String} (E : EM Z y' cc' nL' none d' mc' ms' (.ref b :: As) M M1 r) (G : ok_ X Z y cc nL d mc ms) (hm : my_ y' cc' nL' none As.length) (hnm : y'.name = "<init>") (hs : Cond.instanceMethod y' ∈ TT) (hl : Cond.methodLinkNest y.cls i y' host ∈ nw_) (hd : decode cc pc = .ok (.invokespecial i, 3)) (hst : st0 = As.reverse ++ .ref b :: st) (hc : ((st.map (cv Z)).map fun v => v.category).sum ≤ 8) (hL : L.length = nL)
    (hdd : d' + 1 ≤ d) (hcc : cn + mc' ≤ mc) (hss : sn + ms' ≤ ms) (k : V X Z M1 (cn + mc') (sn + ms') (pc + 3) L (r.toList ++ st)) : V X Z M cn sn pc L st0 := by
  intro H locs ls h1 h2 h3 h4
  refine W_sz fun hu => ?_
  have hsz := sz_of G.2.2.2.2.2.2.1 h1 h2 h3 hu
  have hR := G.2.2.2.2.2.2.2.1
  refine v_run (a := (Value.ref (ad Z b) :: As.map (cv Z)).toArray) G.2.2.2.2.2.2.1 h1 h3 h4 (va_runIN (As := As.map (cv Z)) (b := ad Z b) (Ts := TT) (own := y.cls) (host := host) ⟨G.1, G.2.1, G.2.2.1, G.2.2.2.1, G.2.2.2.2.1⟩ E ⟨va_cnB As.length G.2.2.2.2.1 (goodT hm) rfl rfl rfl (G.2.2.2.2.2.1.2.1 _ hl) (G.2.2.2.2.1 _ hm.2.2.2.1) hm.2.1 (room_of G hm hdd), hnm, G.2.2.2.2.1 _ hs⟩
    ⟨blind_, pre_of G hsz h2 h3⟩ rfl (by simp) (h4.1.trans hL) (by rw [hst]; simp [cv]) (lv_room hc) hd ⟨by omega, by omega⟩) k
theorem v_obj {i b : Nat} (G : ok_ X Z y cc nL d mc ms) (hl : Cond.methodLink y.cls i Lib.objectInit ∈ TT) (hs : Cond.instanceMethod Lib.objectInit ∈ TT) (hco : Cond.code Lib.objectInit ⟨#[0xb1]⟩ 1 none ∈ TT) (hd : decode cc pc = .ok (.invokespecial i, 3)) (hc : ((st.map (cv Z)).map fun v => v.category).sum ≤ 8) (hL : L.length = nL) (hdd : 1 ≤ d) (k : V X Z M cn sn (pc + 3) L st) : V X Z M cn sn pc L (.ref b :: st) := by
  intro H locs ls h1 h2 h3 h4
  have hR := G.2.2.2.2.2.2.2.1
  refine W.objInit G.1 G.2.1 G.2.2.2.1 (G.2.2.2.2.1 _ hl) (G.2.2.2.2.1 _ hs) (G.2.2.2.2.1 _ hco) rfl (by rw [G.2.2.1]; exact h4.1.trans hL) rfl hd (by omega) ?_ (k H locs ls h1 h2 h3 h4)
  show 2 * 0 + _ + 12 ≤ _
  omega
theorem v_copy {i a b : Nat} {sp dp n : Int32} (G : ok_ X Z y cc nL d mc ms) (hl : Cond.methodLink y.cls i arraycopyName ∈ TT) (hn : Cond.native arraycopyName ∈ TT) (hs : Cond.static arraycopyName ∈ TT) (hi : Cond.initialized "java/lang/System" ∈ TT) (hd : decode cc pc = .ok (.invokestatic i, 3)) (hg : cpI M a sp b dp n = some M') (hc : ((st.map (cv Z)).map fun v => v.category).sum ≤ 8) (hL : L.length = nL) (hdd : 1 ≤ d)
    (k : V X Z M' cn sn (pc + 3) L st) : V X Z M cn sn pc L (.int n :: .int dp :: .ref b :: .int sp :: .ref a :: st) := by
  intro H locs ls h1 h2 h3 h4
  have hR := G.2.2.2.2.2.2.2.1
  obtain ⟨hA, hv⟩ := if_s hg
  simp only [Bool.and_eq_true, decide_eq_true_eq] at hA
  obtain ⟨⟨⟨⟨⟨⟨⟨⟨q1, q2⟩, q3⟩, q4⟩, q5⟩, q6⟩, q7⟩, q8⟩, q9⟩ := hA
  have hM := Option.some.inj hv
  refine va_copyi (ws := ws_ Z M) (a := ad Z b) (a0 := ad Z a) G.1 G.2.1 (by rw [G.2.2.1]; exact (h4.1.trans hL).symm) G.2.2.2.1 (G.2.2.2.2.1 _ hl) (G.2.2.2.2.1 _ hn) (G.2.2.2.2.1 _ hs) (G.2.2.2.2.1 _ hi) G.2.2.2.2.2.1.1 h2 (ws_D Z M) h3 a b 0 0 (by rw [ws_get q1, ce_1 q2]) (by rw [ws_get q3, ce_1 q4]) rfl rfl rfl q5 q6 q7 q8 q9 (fun _ _ => rfl) (by omega) ?_ hd (fun H1 locs1 g1 g2 g3 => ?_)
  · have : nativeFrameWords "java/lang/System" "arraycopy" 5 + 11 ≤ 40 := by decide +kernel
    omega
  · rw [ws_set (M' := M') (by rw [← hM]) q3 (by rw [ce_1 (M := M') (by rw [← hM]; exact q4), ← hM]; simp [mi_]) (fun j hj => ce_eq (by rw [← hM]) (by rw [← hM]; simp [mi_, hj]) (by rw [← hM]))] at g1
    exact k H1 locs1 ls (by rw [← hM]; exact h1) g1 g3 h4
/-- the new cell's address -/
theorem new_at {H1 : Heap} {q : Nat} {e : va_E} (h1 : zB Z + mz M = (xs_ X).heap.size + cn) (hP : va_P (zD Z) vwCl (ws_ Z M ++ [(q, e)]) H1) (hD : va_D (zA Z) (ws_ Z M ++ [(q, e)])) (hu : H1.size ≤ (xs_ X).heap.size + (cn + 1)) : q = ad Z (mz M) := by
  have hlen : (ws_ Z M).length = mz M := by simp [ws_]
  have hq : (ws_ Z M ++ [(q, e)])[mz M]? = some (q, e) := by rw [List.getElem?_append_right (by omega), hlen, Nat.sub_self]; rfl
  have h2 := (hP _ _ hq).lt
  have h3 : zB Z ≤ q := hD.2 _ _ hq
  have h4 : ¬ q < zB Z + mz M := by
    intro h
    have h5 : (ws_ Z M ++ [(q, e)])[q - zB Z]? = some (ad Z (q - zB Z), ce_ Z M (q - zB Z)) := by rw [List.getElem?_append_left (by omega)]; exact ws_get (by omega)
    have h6 := hD.1 _ _ _ _ h5 hq (by simp only [ad]; omega)
    omega
  simp only at h2
  simp only [ad]
  omega
theorem nwC_old {k : Nat × Nat} : ∀ j, j < mz M → ce_ Z (nwC M k) j = ce_ Z M j := fun j hj => ce_eq (by simp [mk_, nwC, va_up, Nat.ne_of_lt hj]) (by simp [mi_, nwC, va_up, Nat.ne_of_lt hj]) (by simp [mr_, nwC, va_up, Nat.ne_of_lt hj])
theorem v_new {i : Nat} (G : ok_ X Z y cc nL d mc ms) (B : cls_ ci C T N ty) (hd : decode cc pc = .ok (.new i, 3)) (hw : Cond.classLink y.cls i C ∈ TT) (hcc : cn + 1 ≤ mc) (hss : sn + N ≤ ms) (k : V X Z (nwC M (0, ci)) (cn + 1) (sn + N) (pc + 3) L (.ref (mz M) :: st)) : V X Z M cn sn pc L st := by
  intro H locs ls h1 h2 h3 h4
  have hR := G.2.2.2.2.2.2.2.1
  have hnew : mk_ (nwC M (0, ci)) (mz M) = (0, ci) := by simp [mk_, nwC, va_up]
  refine va_new (ci := ci) (fs := fl_ Z (nwC M (0, ci)) ci (mz M)) (C := C) (T := T) (N := N) (A := zA Z) G.1 G.2.1 G.2.2.2.2.1 B.2.2.1 ty B.2.2.2.1 G.2.2.2.1 (G.2.2.2.2.1 _ hw) (G.2.2.2.2.1 _ B.2.2.2.2.2.2.1) (G.2.2.2.2.1 _ B.2.2.2.2.2.2.2) G.2.2.2.2.2.1.1 h2 (ws_D Z M) h3 (fun q hq => Nat.le_trans G.2.2.2.2.2.2.1 hq) B.1 (fun j hj => ?_) (by omega) (by omega) hd (fun q H1 q1 q2 q3 => ?_)
  · rw [B.2.2.2.2.2.1 j hj, vp_V, List.getD_eq_getElem?_getD, fl_get (by rw [B.2.1]; exact hj)]
    simp [mi_, mr_, nwC, va_up, va_rf]
  · refine W_sz fun hu => ?_
    have hq := new_at h1 q1 q2 hu
    subst hq
    rw [ws_push (M' := nwC M (0, ci)) rfl (ce_O hnew) nwC_old] at q1
    exact k H1 locs ls (by show zB Z + (mz M + 1) = _; omega) q1 q3 h4
theorem v_newI {n : Int32} {n' : Nat} (G : ok_ X Z y cc nL d mc ms) (hd : decode cc pc = .ok (.newarray .int, 2)) (hw : Cond.arrayClass .int ∈ TT) (hn : ¬ n < 0) (hN : n.toNatClampNeg = n') (hb : n' * 4 ≤ 536870912) (hcc : cn + 1 ≤ mc) (hss : sn + n' ≤ ms) (k : V X Z (nwC M (1, n')) (cn + 1) (sn + n') (pc + 2) L (.ref (mz M) :: st)) : V X Z M cn sn pc L (.int n :: st) := by
  intro H locs ls h1 h2 h3 h4
  have hR := G.2.2.2.2.2.2.2.1
  have hnew : (mk_ (nwC M (1, n')) (mz M)).1 = 1 := by simp [mk_, nwC, va_up]
  refine va_newa (a0 := (n', .inl (fun _ => 0))) (A := zA Z) (atype := .int) (ty := .int) G.1 G.2.1 (G.2.2.2.2.1 _ hw) rfl G.2.2.2.2.2.1.1 h2 (ws_D Z M) h3 (fun q hq => Nat.le_trans G.2.2.2.2.2.2.1 hq) (fun _ => rfl) hn hN hb (by omega) (by omega) hd (fun q cA H1 q0 q1 q2 q3 => ?_)
  refine W_sz fun hu => ?_
  have hq := new_at h1 q1 q2 hu
  subst hq
  have hcA : cA = (zC Z).1 := by
    have a1 := (q0.2 4 (cA, .int) rfl).2
    have a2 := (G.2.2.2.2.2.1.1.2 0 _ rfl).2
    exact Option.some.inj (a1.symm.trans a2)
  subst hcA
  rw [ws_push (M' := nwC M (1, n')) rfl (by rw [ce_1 hnew]; simp [mi_, mk_, nwC, va_up]) nwC_old] at q1
  exact k H1 locs ls (by show zB Z + (mz M + 1) = _; omega) q1 q3 h4
theorem v_newZ {n : Int32} {n' : Nat} (G : ok_ X Z y cc nL d mc ms) (hd : decode cc pc = .ok (.newarray .boolean, 2)) (hw : Cond.arrayClass .boolean ∈ TT) (hn : ¬ n < 0) (hN : n.toNatClampNeg = n') (hb : n' * 1 ≤ 536870912) (hcc : cn + 1 ≤ mc) (hss : sn + n' ≤ ms) (k : V X Z (nwC M (2, n')) (cn + 1) (sn + n') (pc + 2) L (.ref (mz M) :: st)) : V X Z M cn sn pc L (.int n :: st) := by
  intro H locs ls h1 h2 h3 h4
  have hR := G.2.2.2.2.2.2.2.1
  have hnew : (mk_ (nwC M (2, n')) (mz M)).1 = 2 := by simp [mk_, nwC, va_up]
  refine va_newa (a0 := (n', .inl (fun _ => 0))) (A := zA Z) (atype := .boolean) (ty := .boolean) G.1 G.2.1 (G.2.2.2.2.1 _ hw) rfl G.2.2.2.2.2.1.1 h2 (ws_D Z M) h3 (fun q hq => Nat.le_trans G.2.2.2.2.2.2.1 hq) (fun _ => rfl) hn hN hb (by omega) (by omega) hd (fun q cA H1 q0 q1 q2 q3 => ?_)
  refine W_sz fun hu => ?_
  have hq := new_at h1 q1 q2 hu
  subst hq
  have hcA : cA = (zC Z).2.1 := by
    have a1 := (q0.2 4 (cA, .boolean) rfl).2
    have a2 := (G.2.2.2.2.2.1.1.2 1 _ rfl).2
    exact Option.some.inj (a1.symm.trans a2)
  subst hcA
  rw [ws_push (M' := nwC M (2, n')) rfl (by rw [ce_2 hnew]; simp [mi_, mk_, nwC, va_up]) nwC_old] at q1
  exact k H1 locs ls (by show zB Z + (mz M + 1) = _; omega) q1 q3 h4
theorem v_new3 {i : Nat} {n : Int32} {n' : Nat} (G : ok_ X Z y cc nL d mc ms) (hd : decode cc pc = .ok (.anewarray i, 3)) (hw : Cond.classLink y.cls i RX4 ∈ TT) (hn : ¬ n < 0) (hN : n.toNatClampNeg = n') (hb : n' * 4 ≤ 536870912) (hcc : cn + 1 ≤ mc) (hss : sn + n' ≤ ms) (k : V X Z (nwC M (3, n')) (cn + 1) (sn + n') (pc + 3) L (.ref (mz M) :: st)) : V X Z M cn sn pc L (.int n :: st) := by
  intro H locs ls h1 h2 h3 h4
  have hR := G.2.2.2.2.2.2.2.1
  have hnew : (mk_ (nwC M (3, n')) (mz M)).1 = 3 := by simp [mk_, nwC, va_up]
  refine va_newq (C := RX4) (A := zA Z) G.1 G.2.1 G.2.2.2.1 (G.2.2.2.2.1 _ hw) G.2.2.2.2.2.1.2.2.1 G.2.2.2.2.2.1.1 h2 (ws_D Z M) h3 (fun q hq => Nat.le_trans G.2.2.2.2.2.2.1 hq) hn hN hb (by omega) (by omega) hd (fun q cA H1 q0 q1 q2 q3 => ?_)
  refine W_sz fun hu => ?_
  have hq := new_at h1 q1 q2 hu
  subst hq
  have hcA : cA = (zC Z).2.2.1 := by
    obtain ⟨_, _, -, -, -, a1⟩ := (q0.2 4 (cA, .object RX4) rfl).2
    obtain ⟨_, _, -, -, -, a2⟩ := (G.2.2.2.2.2.1.1.2 2 _ rfl).2
    exact Option.some.inj (a1.symm.trans a2)
  subst hcA
  rw [ws_push (M' := nwC M (3, n')) rfl (by rw [ce_3 hnew]; simp [mr_, mk_, nwC, va_up]) nwC_old] at q1
  exact k H1 locs ls (by show zB Z + (mz M + 1) = _; omega) q1 q3 h4
theorem v_new4 {i : Nat} {n : Int32} {n' : Nat} (G : ok_ X Z y cc nL d mc ms) (hd : decode cc pc = .ok (.anewarray i, 3)) (hw : Cond.classLink y.cls i RX5 ∈ TT) (hn : ¬ n < 0) (hN : n.toNatClampNeg = n') (hb : n' * 4 ≤ 536870912) (hcc : cn + 1 ≤ mc) (hss : sn + n' ≤ ms) (k : V X Z (nwC M (4, n')) (cn + 1) (sn + n') (pc + 3) L (.ref (mz M) :: st)) : V X Z M cn sn pc L (.int n :: st) := by
  intro H locs ls h1 h2 h3 h4
  have hR := G.2.2.2.2.2.2.2.1
  have hnew : (mk_ (nwC M (4, n')) (mz M)).1 = 4 := by simp [mk_, nwC, va_up]
  refine va_newq (C := RX5) (A := zA Z) G.1 G.2.1 G.2.2.2.1 (G.2.2.2.2.1 _ hw) G.2.2.2.2.2.1.2.2.2.1 G.2.2.2.2.2.1.1 h2 (ws_D Z M) h3 (fun q hq => Nat.le_trans G.2.2.2.2.2.2.1 hq) hn hN hb (by omega) (by omega) hd (fun q cA H1 q0 q1 q2 q3 => ?_)
  refine W_sz fun hu => ?_
  have hq := new_at h1 q1 q2 hu
  subst hq
  have hcA : cA = (zC Z).2.2.2 := by
    obtain ⟨_, _, -, -, -, a1⟩ := (q0.2 4 (cA, .object RX5) rfl).2
    obtain ⟨_, _, -, -, -, a2⟩ := (G.2.2.2.2.2.1.1.2 3 _ rfl).2
    exact Option.some.inj (a1.symm.trans a2)
  subst hcA
  rw [ws_push (M' := nwC M (4, n')) rfl (by rw [ce_4 hnew]; simp [mr_, mk_, nwC, va_up]) nwC_old] at q1
  exact k H1 locs ls (by show zB Z + (mz M + 1) = _; omega) q1 q3 h4
theorem v_iret {v : Int32} (G : ok_ X Z y cc nL d mc ms) (F : fin_ X Z M0 M (some (.int v)) (some .int) mc ms) (hd : decode cc pc = .ok (.ireturn, 1)) (hc : cn = mc) (hs : sn ≤ ms) : V X Z M cn sn pc L [.int v] := by
  intro H locs ls h1 h2 h3 h4
  obtain ⟨f1, f2, f3, f4⟩ := F
  subst hc
  rw [f1]
  refine W.widen (Nat.le_refl _) hs ?_
  exact W.iret G.1 G.2.1 f2 (fun t ht hW => ⟨rfl, by rw [ht]; exact h2, by omega, h3.F ht⟩) h3.2.2 hd f3
theorem v_zret {v : Int32} (G : ok_ X Z y cc nL d mc ms) (F : fin_ X Z M0 M (some (.int v)) (some .boolean) mc ms) (hv : (v == 0 || v == 1) = true) (hd : decode cc pc = .ok (.ireturn, 1)) (hc : cn = mc) (hs : sn ≤ ms) : V X Z M cn sn pc L [.int v] := by
  intro H locs ls h1 h2 h3 h4
  obtain ⟨f1, f2, f3, f4⟩ := F
  subst hc
  rw [f1]
  refine W.widen (Nat.le_refl _) hs ?_
  have hn : narrow .boolean (.int v) = .int v := by
    simp only [Bool.or_eq_true, beq_iff_eq] at hv
    rcases hv with rfl | rfl <;> decide
  exact W.zret G.1 G.2.1 f2 hn (fun t ht hW => ⟨rfl, by rw [ht]; exact h2, by omega, h3.F ht⟩) h3.2.2 hd f3
theorem v_lret {v : Int64} (G : ok_ X Z y cc nL d mc ms) (F : fin_ X Z M0 M (some (.long v)) (some .long) mc ms) (hd : decode cc pc = .ok (.lreturn, 1)) (hc : cn = mc) (hs : sn ≤ ms) : V X Z M cn sn pc L [.long v] := by
  intro H locs ls h1 h2 h3 h4
  obtain ⟨f1, f2, f3, f4⟩ := F
  subst hc
  rw [f1]
  refine W.widen (Nat.le_refl _) hs ?_
  exact W.lret G.1 G.2.1 f2 (fun t ht hW => ⟨rfl, by rw [ht]; exact h2, by omega, h3.F ht⟩) h3.2.2 hd f3
theorem v_vret (G : ok_ X Z y cc nL d mc ms) (F : fin_ X Z M0 M none none mc ms) (hd : decode cc pc = .ok (.return_, 1)) (hc : cn = mc) (hs : sn ≤ ms) : V X Z M cn sn pc L [] := by
  intro H locs ls h1 h2 h3 h4
  obtain ⟨f1, f2, f3, f4⟩ := F
  subst hc
  rw [f1]
  refine W.widen (Nat.le_refl _) hs ?_
  exact W.vret G.1 G.2.1 f2 (fun t ht hW => ⟨rfl, by rw [ht]; exact h2, by omega, h3.F ht⟩) h3.2.2 hd f3
theorem v_aret {a : Nat} {n : String} (G : ok_ X Z y cc nL d mc ms) (F : fin_ X Z M0 M (some (.ref a)) (some (.object n)) mc ms) (hd : decode cc pc = .ok (.areturn, 1)) (hc : cn = mc) (hs : sn ≤ ms) : V X Z M cn sn pc L [.ref a] := by
  intro H locs ls h1 h2 h3 h4
  obtain ⟨f1, f2, f3, f4⟩ := F
  subst hc
  rw [f1]
  refine W.widen (Nat.le_refl _) hs ?_
  exact W.aret G.1 G.2.1 f2 (Or.inl ⟨n, rfl⟩) (Or.inr ⟨_, rfl⟩) (fun t ht hW => ⟨rfl, by rw [ht]; exact h2, by omega, h3.F ht⟩) h3.2.2 hd f3
end RL3
end
