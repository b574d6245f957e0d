-- ===== PART A: goes FIRST, ahead of the names: the tables' words, and 'selects' of the private methods out of them =====
/-- a private method of a class that the tables say can be made, by its rows of tables_1 -/
def lw_okq (q : MethodName × Nat) : Prop := (q.1.cls ≠ "java/lang/invoke/MethodHandle" ∧ q.1.cls ≠ "java/lang/invoke/VarHandle") ∧ Cond.instantiable q.1.cls q.2 ∈ tables_1 ∧ Cond.privateMethod q.1 ∈ tables_1 ∧ Cond.instanceMethod q.1 ∈ tables_1
theorem lw_p0 : lw_okq (⟨"AnswerKeeper", "settle", "()V"⟩, 8) := ⟨⟨by decide +kernel, by decide +kernel⟩, List.mem_of_getElem? (i := 11) (by decide +kernel), List.mem_of_getElem? (i := 93) (by decide +kernel), List.mem_of_getElem? (i := 94) (by decide +kernel)⟩
theorem lw_p1 : lw_okq (⟨"AnswerKeeper", "answerAt", "(I)LAnswerKeeper$Answer;"⟩, 8) := ⟨⟨by decide +kernel, by decide +kernel⟩, List.mem_of_getElem? (i := 11) (by decide +kernel), List.mem_of_getElem? (i := 97) (by decide +kernel), List.mem_of_getElem? (i := 98) (by decide +kernel)⟩
theorem lw_p2 : lw_okq (⟨"AnswerKeeper", "settlePlain", "(LAnswerKeeper$Answer;)V"⟩, 8) := ⟨⟨by decide +kernel, by decide +kernel⟩, List.mem_of_getElem? (i := 11) (by decide +kernel), List.mem_of_getElem? (i := 101) (by decide +kernel), List.mem_of_getElem? (i := 102) (by decide +kernel)⟩
theorem lw_p3 : lw_okq (⟨"AnswerKeeper", "settleUnder", "()V"⟩, 8) := ⟨⟨by decide +kernel, by decide +kernel⟩, List.mem_of_getElem? (i := 11) (by decide +kernel), List.mem_of_getElem? (i := 116) (by decide +kernel), List.mem_of_getElem? (i := 117) (by decide +kernel)⟩
theorem lw_p4 : lw_okq (⟨"AnswerKeeper", "widenUnder", "(LAnswerKeeper$Answer;)Z"⟩, 8) := ⟨⟨by decide +kernel, by decide +kernel⟩, List.mem_of_getElem? (i := 11) (by decide +kernel), List.mem_of_getElem? (i := 120) (by decide +kernel), List.mem_of_getElem? (i := 121) (by decide +kernel)⟩
theorem lw_p5 : lw_okq (⟨"AnswerKeeper", "endOf", "(I)LAnswerKeeper$Answer;"⟩, 8) := ⟨⟨by decide +kernel, by decide +kernel⟩, List.mem_of_getElem? (i := 11) (by decide +kernel), List.mem_of_getElem? (i := 128) (by decide +kernel), List.mem_of_getElem? (i := 129) (by decide +kernel)⟩
theorem lw_p6 : lw_okq (⟨"AnswerKeeper", "settleJoined", "(LAnswerKeeper$Answer;)V"⟩, 8) := ⟨⟨by decide +kernel, by decide +kernel⟩, List.mem_of_getElem? (i := 11) (by decide +kernel), List.mem_of_getElem? (i := 133) (by decide +kernel), List.mem_of_getElem? (i := 134) (by decide +kernel)⟩
theorem lw_p7 : lw_okq (⟨"AnswerKeeper", "askAt", "(I)LAnswerKeeper$Ask;"⟩, 8) := ⟨⟨by decide +kernel, by decide +kernel⟩, List.mem_of_getElem? (i := 11) (by decide +kernel), List.mem_of_getElem? (i := 154) (by decide +kernel), List.mem_of_getElem? (i := 155) (by decide +kernel)⟩
theorem lw_p8 : lw_okq (⟨"AnswerKeeper", "keep", "(LAnswerKeeper$Answer;)V"⟩, 8) := ⟨⟨by decide +kernel, by decide +kernel⟩, List.mem_of_getElem? (i := 11) (by decide +kernel), List.mem_of_getElem? (i := 246) (by decide +kernel), List.mem_of_getElem? (i := 247) (by decide +kernel)⟩
theorem lw_p9 : lw_okq (⟨"AnswerKeeper", "isAnswer", "(I)Z"⟩, 8) := ⟨⟨by decide +kernel, by decide +kernel⟩, List.mem_of_getElem? (i := 11) (by decide +kernel), List.mem_of_getElem? (i := 254) (by decide +kernel), List.mem_of_getElem? (i := 255) (by decide +kernel)⟩
theorem lw_p10 : lw_okq (⟨"AnswerKeeper", "areAllPlain", "(I)Z"⟩, 8) := ⟨⟨by decide +kernel, by decide +kernel⟩, List.mem_of_getElem? (i := 11) (by decide +kernel), List.mem_of_getElem? (i := 264) (by decide +kernel), List.mem_of_getElem? (i := 265) (by decide +kernel)⟩
theorem lw_p11 : lw_okq (⟨"AnswerKeeper", "leadOn", "(II)V"⟩, 8) := ⟨⟨by decide +kernel, by decide +kernel⟩, List.mem_of_getElem? (i := 11) (by decide +kernel), List.mem_of_getElem? (i := 297) (by decide +kernel), List.mem_of_getElem? (i := 298) (by decide +kernel)⟩
theorem lw_p12 : lw_okq (⟨"AnswerKeeper", "partNow", "(LAnswerKeeper$Answer;I)I"⟩, 8) := ⟨⟨by decide +kernel, by decide +kernel⟩, List.mem_of_getElem? (i := 11) (by decide +kernel), List.mem_of_getElem? (i := 334) (by decide +kernel), List.mem_of_getElem? (i := 335) (by decide +kernel)⟩
theorem lw_p13 : lw_okq (⟨"AnswerKeeper", "kindCount", "(I)I"⟩, 8) := ⟨⟨by decide +kernel, by decide +kernel⟩, List.mem_of_getElem? (i := 11) (by decide +kernel), List.mem_of_getElem? (i := 359) (by decide +kernel), List.mem_of_getElem? (i := 360) (by decide +kernel)⟩
theorem lw_p14 : lw_okq (⟨"AnswerKeeper", "doubtedCount", "()I"⟩, 8) := ⟨⟨by decide +kernel, by decide +kernel⟩, List.mem_of_getElem? (i := 11) (by decide +kernel), List.mem_of_getElem? (i := 363) (by decide +kernel), List.mem_of_getElem? (i := 364) (by decide +kernel)⟩
theorem lw_p15 : lw_okq (⟨"AnswerKeeper", "quarrelCount", "()I"⟩, 8) := ⟨⟨by decide +kernel, by decide +kernel⟩, List.mem_of_getElem? (i := 11) (by decide +kernel), List.mem_of_getElem? (i := 367) (by decide +kernel), List.mem_of_getElem? (i := 368) (by decide +kernel)⟩
def lw_privs_1 : List (MethodName × Nat) := [(⟨"AnswerKeeper", "settle", "()V"⟩, 8), (⟨"AnswerKeeper", "answerAt", "(I)LAnswerKeeper$Answer;"⟩, 8), (⟨"AnswerKeeper", "settlePlain", "(LAnswerKeeper$Answer;)V"⟩, 8), (⟨"AnswerKeeper", "settleUnder", "()V"⟩, 8), (⟨"AnswerKeeper", "widenUnder", "(LAnswerKeeper$Answer;)Z"⟩, 8), (⟨"AnswerKeeper", "endOf", "(I)LAnswerKeeper$Answer;"⟩, 8), (⟨"AnswerKeeper", "settleJoined", "(LAnswerKeeper$Answer;)V"⟩, 8), (⟨"AnswerKeeper", "askAt", "(I)LAnswerKeeper$Ask;"⟩, 8), (⟨"AnswerKeeper", "keep", "(LAnswerKeeper$Answer;)V"⟩, 8), (⟨"AnswerKeeper", "isAnswer", "(I)Z"⟩, 8), (⟨"AnswerKeeper", "areAllPlain", "(I)Z"⟩, 8), (⟨"AnswerKeeper", "leadOn", "(II)V"⟩, 8), (⟨"AnswerKeeper", "partNow", "(LAnswerKeeper$Answer;I)I"⟩, 8), (⟨"AnswerKeeper", "kindCount", "(I)I"⟩, 8), (⟨"AnswerKeeper", "doubtedCount", "()I"⟩, 8), (⟨"AnswerKeeper", "quarrelCount", "()I"⟩, 8)]
theorem lw_r1 : ∀ q ∈ lw_privs_1, lw_okq q := List.forall_mem_cons.mpr ⟨lw_p0, List.forall_mem_cons.mpr ⟨lw_p1, List.forall_mem_cons.mpr ⟨lw_p2, List.forall_mem_cons.mpr ⟨lw_p3, List.forall_mem_cons.mpr ⟨lw_p4, List.forall_mem_cons.mpr ⟨lw_p5, List.forall_mem_cons.mpr ⟨lw_p6, List.forall_mem_cons.mpr ⟨lw_p7, List.forall_mem_cons.mpr ⟨lw_p8, List.forall_mem_cons.mpr ⟨lw_p9, List.forall_mem_cons.mpr ⟨lw_p10, List.forall_mem_cons.mpr ⟨lw_p11, List.forall_mem_cons.mpr ⟨lw_p12, List.forall_mem_cons.mpr ⟨lw_p13, List.forall_mem_cons.mpr ⟨lw_p14, List.forall_mem_cons.mpr ⟨lw_p15, fun _ h => absurd h List.not_mem_nil⟩⟩⟩⟩⟩⟩⟩⟩⟩⟩⟩⟩⟩⟩⟩⟩
theorem lw_p16 : lw_okq (⟨"AnswerKeeper", "areQuarrelling", "(LAnswerKeeper$Answer;LAnswerKeeper$Answer;)Z"⟩, 8) := ⟨⟨by decide +kernel, by decide +kernel⟩, List.mem_of_getElem? (i := 11) (by decide +kernel), List.mem_of_getElem? (i := 371) (by decide +kernel), List.mem_of_getElem? (i := 372) (by decide +kernel)⟩
theorem lw_p17 : lw_okq (⟨"AnswerKeeper", "asksInVain", "()I"⟩, 8) := ⟨⟨by decide +kernel, by decide +kernel⟩, List.mem_of_getElem? (i := 11) (by decide +kernel), List.mem_of_getElem? (i := 384) (by decide +kernel), List.mem_of_getElem? (i := 385) (by decide +kernel)⟩
theorem lw_p18 : lw_okq (⟨"AnswerKeeper", "findsSome", "(JLAnswerKeeper$Ask;)Z"⟩, 8) := ⟨⟨by decide +kernel, by decide +kernel⟩, List.mem_of_getElem? (i := 11) (by decide +kernel), List.mem_of_getElem? (i := 388) (by decide +kernel), List.mem_of_getElem? (i := 389) (by decide +kernel)⟩
theorem lw_p19 : lw_okq (⟨"AnswerKeeper", "isFound", "(JLAnswerKeeper$Ask;LAnswerKeeper$Answer;)Z"⟩, 8) := ⟨⟨by decide +kernel, by decide +kernel⟩, List.mem_of_getElem? (i := 11) (by decide +kernel), List.mem_of_getElem? (i := 392) (by decide +kernel), List.mem_of_getElem? (i := 393) (by decide +kernel)⟩
theorem lw_p20 : lw_okq (⟨"AnswerKeeper", "heapCount", "(I)I"⟩, 8) := ⟨⟨by decide +kernel, by decide +kernel⟩, List.mem_of_getElem? (i := 11) (by decide +kernel), List.mem_of_getElem? (i := 414) (by decide +kernel), List.mem_of_getElem? (i := 415) (by decide +kernel)⟩
theorem lw_p21 : lw_okq (⟨"AnswerKeeper", "heapFrom", "(II)I"⟩, 8) := ⟨⟨by decide +kernel, by decide +kernel⟩, List.mem_of_getElem? (i := 11) (by decide +kernel), List.mem_of_getElem? (i := 418) (by decide +kernel), List.mem_of_getElem? (i := 419) (by decide +kernel)⟩
theorem lw_p22 : lw_okq (⟨"AnswerKeeper", "isNearOne", "(LAnswerKeeper$Ask;I)Z"⟩, 8) := ⟨⟨by decide +kernel, by decide +kernel⟩, List.mem_of_getElem? (i := 11) (by decide +kernel), List.mem_of_getElem? (i := 422) (by decide +kernel), List.mem_of_getElem? (i := 423) (by decide +kernel)⟩
theorem lw_p23 : lw_okq (⟨"AnswerKeeper", "quarrelPart", "(III)I"⟩, 8) := ⟨⟨by decide +kernel, by decide +kernel⟩, List.mem_of_getElem? (i := 11) (by decide +kernel), List.mem_of_getElem? (i := 430) (by decide +kernel), List.mem_of_getElem? (i := 431) (by decide +kernel)⟩
theorem lw_p24 : lw_okq (⟨"AnswerKeeper", "foundAt", "(LAnswerKeeper$Ask;I)LAnswerKeeper$Answer;"⟩, 8) := ⟨⟨by decide +kernel, by decide +kernel⟩, List.mem_of_getElem? (i := 11) (by decide +kernel), List.mem_of_getElem? (i := 465) (by decide +kernel), List.mem_of_getElem? (i := 466) (by decide +kernel)⟩
theorem lw_p25 : lw_okq (⟨"AnswerKeeper", "betterCount", "(LAnswerKeeper$Ask;LAnswerKeeper$Answer;)I"⟩, 8) := ⟨⟨by decide +kernel, by decide +kernel⟩, List.mem_of_getElem? (i := 11) (by decide +kernel), List.mem_of_getElem? (i := 469) (by decide +kernel), List.mem_of_getElem? (i := 470) (by decide +kernel)⟩
theorem lw_p26 : lw_okq (⟨"AnswerKeeper", "heapOf", "(II)I"⟩, 8) := ⟨⟨by decide +kernel, by decide +kernel⟩, List.mem_of_getElem? (i := 11) (by decide +kernel), List.mem_of_getElem? (i := 481) (by decide +kernel), List.mem_of_getElem? (i := 482) (by decide +kernel)⟩
theorem lw_p27 : lw_okq (⟨"AnswerKeeper", "helpFor", "(LAnswerKeeper$Ask;)I"⟩, 8) := ⟨⟨by decide +kernel, by decide +kernel⟩, List.mem_of_getElem? (i := 11) (by decide +kernel), List.mem_of_getElem? (i := 485) (by decide +kernel), List.mem_of_getElem? (i := 486) (by decide +kernel)⟩
theorem lw_p28 : lw_okq (⟨"AnswerKeeper", "foundCount", "(LAnswerKeeper$Ask;)I"⟩, 8) := ⟨⟨by decide +kernel, by decide +kernel⟩, List.mem_of_getElem? (i := 11) (by decide +kernel), List.mem_of_getElem? (i := 489) (by decide +kernel), List.mem_of_getElem? (i := 490) (by decide +kernel)⟩
theorem lw_p29 : lw_okq (⟨"AnswerKeeperModel", "fresh", "(I)I"⟩, 25) := ⟨⟨by decide +kernel, by decide +kernel⟩, List.mem_of_getElem? (i := 493) (by decide +kernel), List.mem_of_getElem? (i := 605) (by decide +kernel), List.mem_of_getElem? (i := 606) (by decide +kernel)⟩
theorem lw_p30 : lw_okq (⟨"AnswerKeeperModel", "is", "(I)Z"⟩, 25) := ⟨⟨by decide +kernel, by decide +kernel⟩, List.mem_of_getElem? (i := 493) (by decide +kernel), List.mem_of_getElem? (i := 613) (by decide +kernel), List.mem_of_getElem? (i := 614) (by decide +kernel)⟩
theorem lw_p31 : lw_okq (⟨"AnswerKeeperModel", "isPlain", "(I)Z"⟩, 25) := ⟨⟨by decide +kernel, by decide +kernel⟩, List.mem_of_getElem? (i := 493) (by decide +kernel), List.mem_of_getElem? (i := 617) (by decide +kernel), List.mem_of_getElem? (i := 618) (by decide +kernel)⟩
def lw_privs_2 : List (MethodName × Nat) := [(⟨"AnswerKeeper", "areQuarrelling", "(LAnswerKeeper$Answer;LAnswerKeeper$Answer;)Z"⟩, 8), (⟨"AnswerKeeper", "asksInVain", "()I"⟩, 8), (⟨"AnswerKeeper", "findsSome", "(JLAnswerKeeper$Ask;)Z"⟩, 8), (⟨"AnswerKeeper", "isFound", "(JLAnswerKeeper$Ask;LAnswerKeeper$Answer;)Z"⟩, 8), (⟨"AnswerKeeper", "heapCount", "(I)I"⟩, 8), (⟨"AnswerKeeper", "heapFrom", "(II)I"⟩, 8), (⟨"AnswerKeeper", "isNearOne", "(LAnswerKeeper$Ask;I)Z"⟩, 8), (⟨"AnswerKeeper", "quarrelPart", "(III)I"⟩, 8), (⟨"AnswerKeeper", "foundAt", "(LAnswerKeeper$Ask;I)LAnswerKeeper$Answer;"⟩, 8), (⟨"AnswerKeeper", "betterCount", "(LAnswerKeeper$Ask;LAnswerKeeper$Answer;)I"⟩, 8), (⟨"AnswerKeeper", "heapOf", "(II)I"⟩, 8), (⟨"AnswerKeeper", "helpFor", "(LAnswerKeeper$Ask;)I"⟩, 8), (⟨"AnswerKeeper", "foundCount", "(LAnswerKeeper$Ask;)I"⟩, 8), (⟨"AnswerKeeperModel", "fresh", "(I)I"⟩, 25), (⟨"AnswerKeeperModel", "is", "(I)Z"⟩, 25), (⟨"AnswerKeeperModel", "isPlain", "(I)Z"⟩, 25)]
theorem lw_r2 : ∀ q ∈ lw_privs_2, lw_okq q := List.forall_mem_cons.mpr ⟨lw_p16, List.forall_mem_cons.mpr ⟨lw_p17, List.forall_mem_cons.mpr ⟨lw_p18, List.forall_mem_cons.mpr ⟨lw_p19, List.forall_mem_cons.mpr ⟨lw_p20, List.forall_mem_cons.mpr ⟨lw_p21, List.forall_mem_cons.mpr ⟨lw_p22, List.forall_mem_cons.mpr ⟨lw_p23, List.forall_mem_cons.mpr ⟨lw_p24, List.forall_mem_cons.mpr ⟨lw_p25, List.forall_mem_cons.mpr ⟨lw_p26, List.forall_mem_cons.mpr ⟨lw_p27, List.forall_mem_cons.mpr ⟨lw_p28, List.forall_mem_cons.mpr ⟨lw_p29, List.forall_mem_cons.mpr ⟨lw_p30, List.forall_mem_cons.mpr ⟨lw_p31, fun _ h => absurd h List.not_mem_nil⟩⟩⟩⟩⟩⟩⟩⟩⟩⟩⟩⟩⟩⟩⟩⟩
theorem lw_p32 : lw_okq (⟨"AnswerKeeperModel", "work", "()V"⟩, 25) := ⟨⟨by decide +kernel, by decide +kernel⟩, List.mem_of_getElem? (i := 493) (by decide +kernel), List.mem_of_getElem? (i := 629) (by decide +kernel), List.mem_of_getElem? (i := 630) (by decide +kernel)⟩
theorem lw_p33 : lw_okq (⟨"AnswerKeeperModel", "workPlain", "(I)V"⟩, 25) := ⟨⟨by decide +kernel, by decide +kernel⟩, List.mem_of_getElem? (i := 493) (by decide +kernel), List.mem_of_getElem? (i := 633) (by decide +kernel), List.mem_of_getElem? (i := 634) (by decide +kernel)⟩
theorem lw_p34 : lw_okq (⟨"AnswerKeeperModel", "workJoined", "(I)V"⟩, 25) := ⟨⟨by decide +kernel, by decide +kernel⟩, List.mem_of_getElem? (i := 493) (by decide +kernel), List.mem_of_getElem? (i := 637) (by decide +kernel), List.mem_of_getElem? (i := 638) (by decide +kernel)⟩
theorem lw_p35 : lw_okq (⟨"AnswerKeeperModel", "endOf", "(I)I"⟩, 25) := ⟨⟨by decide +kernel, by decide +kernel⟩, List.mem_of_getElem? (i := 493) (by decide +kernel), List.mem_of_getElem? (i := 641) (by decide +kernel), List.mem_of_getElem? (i := 642) (by decide +kernel)⟩
theorem lw_p36 : lw_okq (⟨"AnswerKeeperModel", "hasPart", "(II)Z"⟩, 25) := ⟨⟨by decide +kernel, by decide +kernel⟩, List.mem_of_getElem? (i := 493) (by decide +kernel), List.mem_of_getElem? (i := 652) (by decide +kernel), List.mem_of_getElem? (i := 653) (by decide +kernel)⟩
theorem lw_p37 : lw_okq (⟨"AnswerKeeperModel", "isWithin", "(II)Z"⟩, 25) := ⟨⟨by decide +kernel, by decide +kernel⟩, List.mem_of_getElem? (i := 493) (by decide +kernel), List.mem_of_getElem? (i := 660) (by decide +kernel), List.mem_of_getElem? (i := 661) (by decide +kernel)⟩
theorem lw_p38 : lw_okq (⟨"AnswerKeeperModel", "partMany", "(I)I"⟩, 25) := ⟨⟨by decide +kernel, by decide +kernel⟩, List.mem_of_getElem? (i := 493) (by decide +kernel), List.mem_of_getElem? (i := 673) (by decide +kernel), List.mem_of_getElem? (i := 674) (by decide +kernel)⟩
theorem lw_p39 : lw_okq (⟨"AnswerKeeperModel", "quarrels", "(II)Z"⟩, 25) := ⟨⟨by decide +kernel, by decide +kernel⟩, List.mem_of_getElem? (i := 493) (by decide +kernel), List.mem_of_getElem? (i := 696) (by decide +kernel), List.mem_of_getElem? (i := 697) (by decide +kernel)⟩
theorem lw_p40 : lw_okq (⟨"AnswerKeeperModel", "far", "(JJ)I"⟩, 25) := ⟨⟨by decide +kernel, by decide +kernel⟩, List.mem_of_getElem? (i := 493) (by decide +kernel), List.mem_of_getElem? (i := 700) (by decide +kernel), List.mem_of_getElem? (i := 701) (by decide +kernel)⟩
theorem lw_p41 : lw_okq (⟨"AnswerKeeperModel", "folded", "(J)J"⟩, 25) := ⟨⟨by decide +kernel, by decide +kernel⟩, List.mem_of_getElem? (i := 493) (by decide +kernel), List.mem_of_getElem? (i := 704) (by decide +kernel), List.mem_of_getElem? (i := 705) (by decide +kernel)⟩
theorem lw_p42 : lw_okq (⟨"AnswerKeeperModel", "isAsk", "(I)Z"⟩, 25) := ⟨⟨by decide +kernel, by decide +kernel⟩, List.mem_of_getElem? (i := 493) (by decide +kernel), List.mem_of_getElem? (i := 722) (by decide +kernel), List.mem_of_getElem? (i := 723) (by decide +kernel)⟩
theorem lw_p43 : lw_okq (⟨"AnswerKeeperModel", "isFit", "(II)Z"⟩, 25) := ⟨⟨by decide +kernel, by decide +kernel⟩, List.mem_of_getElem? (i := 493) (by decide +kernel), List.mem_of_getElem? (i := 726) (by decide +kernel), List.mem_of_getElem? (i := 727) (by decide +kernel)⟩
theorem lw_p44 : lw_okq (⟨"AnswerKeeperModel", "costWith", "(JII)I"⟩, 25) := ⟨⟨by decide +kernel, by decide +kernel⟩, List.mem_of_getElem? (i := 493) (by decide +kernel), List.mem_of_getElem? (i := 730) (by decide +kernel), List.mem_of_getElem? (i := 731) (by decide +kernel)⟩
theorem lw_p45 : lw_okq (⟨"AnswerKeeperModel", "questionOf", "(II)I"⟩, 25) := ⟨⟨by decide +kernel, by decide +kernel⟩, List.mem_of_getElem? (i := 493) (by decide +kernel), List.mem_of_getElem? (i := 735) (by decide +kernel), List.mem_of_getElem? (i := 736) (by decide +kernel)⟩
theorem lw_p46 : lw_okq (⟨"AnswerKeeperModel", "findHeaps", "()V"⟩, 25) := ⟨⟨by decide +kernel, by decide +kernel⟩, List.mem_of_getElem? (i := 493) (by decide +kernel), List.mem_of_getElem? (i := 748) (by decide +kernel), List.mem_of_getElem? (i := 749) (by decide +kernel)⟩
theorem lw_p47 : lw_okq (⟨"AnswerKeeperModel", "findsWith", "(JI)I"⟩, 25) := ⟨⟨by decide +kernel, by decide +kernel⟩, List.mem_of_getElem? (i := 493) (by decide +kernel), List.mem_of_getElem? (i := 752) (by decide +kernel), List.mem_of_getElem? (i := 753) (by decide +kernel)⟩
def lw_privs_3 : List (MethodName × Nat) := [(⟨"AnswerKeeperModel", "work", "()V"⟩, 25), (⟨"AnswerKeeperModel", "workPlain", "(I)V"⟩, 25), (⟨"AnswerKeeperModel", "workJoined", "(I)V"⟩, 25), (⟨"AnswerKeeperModel", "endOf", "(I)I"⟩, 25), (⟨"AnswerKeeperModel", "hasPart", "(II)Z"⟩, 25), (⟨"AnswerKeeperModel", "isWithin", "(II)Z"⟩, 25), (⟨"AnswerKeeperModel", "partMany", "(I)I"⟩, 25), (⟨"AnswerKeeperModel", "quarrels", "(II)Z"⟩, 25), (⟨"AnswerKeeperModel", "far", "(JJ)I"⟩, 25), (⟨"AnswerKeeperModel", "folded", "(J)J"⟩, 25), (⟨"AnswerKeeperModel", "isAsk", "(I)Z"⟩, 25), (⟨"AnswerKeeperModel", "isFit", "(II)Z"⟩, 25), (⟨"AnswerKeeperModel", "costWith", "(JII)I"⟩, 25), (⟨"AnswerKeeperModel", "questionOf", "(II)I"⟩, 25), (⟨"AnswerKeeperModel", "findHeaps", "()V"⟩, 25), (⟨"AnswerKeeperModel", "findsWith", "(JI)I"⟩, 25)]
theorem lw_r3 : ∀ q ∈ lw_privs_3, lw_okq q := List.forall_mem_cons.mpr ⟨lw_p32, List.forall_mem_cons.mpr ⟨lw_p33, List.forall_mem_cons.mpr ⟨lw_p34, List.forall_mem_cons.mpr ⟨lw_p35, List.forall_mem_cons.mpr ⟨lw_p36, List.forall_mem_cons.mpr ⟨lw_p37, List.forall_mem_cons.mpr ⟨lw_p38, List.forall_mem_cons.mpr ⟨lw_p39, List.forall_mem_cons.mpr ⟨lw_p40, List.forall_mem_cons.mpr ⟨lw_p41, List.forall_mem_cons.mpr ⟨lw_p42, List.forall_mem_cons.mpr ⟨lw_p43, List.forall_mem_cons.mpr ⟨lw_p44, List.forall_mem_cons.mpr ⟨lw_p45, List.forall_mem_cons.mpr ⟨lw_p46, List.forall_mem_cons.mpr ⟨lw_p47, fun _ h => absurd h List.not_mem_nil⟩⟩⟩⟩⟩⟩⟩⟩⟩⟩⟩⟩⟩⟩⟩⟩
theorem lw_p48 : lw_okq (⟨"AnswerKeeperModel", "heapOf", "(I)I"⟩, 25) := ⟨⟨by decide +kernel, by decide +kernel⟩, List.mem_of_getElem? (i := 493) (by decide +kernel), List.mem_of_getElem? (i := 756) (by decide +kernel), List.mem_of_getElem? (i := 757) (by decide +kernel)⟩
theorem lw_p49 : lw_okq (⟨"AnswerKeeperModel", "helpOf", "(I)I"⟩, 25) := ⟨⟨by decide +kernel, by decide +kernel⟩, List.mem_of_getElem? (i := 493) (by decide +kernel), List.mem_of_getElem? (i := 760) (by decide +kernel), List.mem_of_getElem? (i := 761) (by decide +kernel)⟩
theorem lw_p50 : lw_okq (⟨"AnswerKeeperModel", "counted", "(II)I"⟩, 25) := ⟨⟨by decide +kernel, by decide +kernel⟩, List.mem_of_getElem? (i := 493) (by decide +kernel), List.mem_of_getElem? (i := 769) (by decide +kernel), List.mem_of_getElem? (i := 770) (by decide +kernel)⟩
def lw_privs_4 : List (MethodName × Nat) := [(⟨"AnswerKeeperModel", "heapOf", "(I)I"⟩, 25), (⟨"AnswerKeeperModel", "helpOf", "(I)I"⟩, 25), (⟨"AnswerKeeperModel", "counted", "(II)I"⟩, 25)]
theorem lw_r4 : ∀ q ∈ lw_privs_4, lw_okq q := List.forall_mem_cons.mpr ⟨lw_p48, List.forall_mem_cons.mpr ⟨lw_p49, List.forall_mem_cons.mpr ⟨lw_p50, fun _ h => absurd h List.not_mem_nil⟩⟩⟩
def lw_privs : List (MethodName × Nat) := lw_privs_1 ++ (lw_privs_2 ++ (lw_privs_3 ++ (lw_privs_4)))
def lw_tbl : List Cond := k2_sels lw_privs ++ tables_1
theorem lw_privs_ok : ∀ q ∈ lw_privs, lw_okq q := by
  show ∀ q ∈ lw_privs_1 ++ (lw_privs_2 ++ (lw_privs_3 ++ (lw_privs_4))), lw_okq q
  exact List.forall_mem_append.mpr ⟨lw_r1, List.forall_mem_append.mpr ⟨lw_r2, List.forall_mem_append.mpr ⟨lw_r3, lw_r4⟩⟩⟩
-- names: printed by the claim's program
def RX0 : String := "AnswerKeeper$Answer"
def TX0 : u_T := fun k => match k with
  | 0 => ("AnswerKeeper$Answer", "number", "I", true)
  | 1 => ("AnswerKeeper$Answer", "kind", "I", true)
  | 2 => ("AnswerKeeper$Answer", "steps", "I", true)
  | 3 => ("AnswerKeeper$Answer", "sets", "[I", true)
  | 4 => ("AnswerKeeper$Answer", "parts", "[I", true)
  | 5 => ("AnswerKeeper$Answer", "words", "J", false)
  | 6 => ("AnswerKeeper$Answer", "things", "I", false)
  | 7 => ("AnswerKeeper$Answer", "sure", "I", false)
  | 8 => ("AnswerKeeper$Answer", "votes", "I", false)
  | 9 => ("AnswerKeeper$Answer", "end", "I", false)
  | 10 => ("AnswerKeeper$Answer", "folded", "J", false)
  | 11 => ("AnswerKeeper$Answer", "doubted", "Z", false)
  | _ => ("AnswerKeeper$Answer", "under", "I", false)
def tyX0 : Nat → FieldType := fun k => match k with
  | 0 => .int
  | 1 => .int
  | 2 => .int
  | 3 => .array .int
  | 4 => .array .int
  | 5 => .long
  | 6 => .int
  | 7 => .int
  | 8 => .int
  | 9 => .int
  | 10 => .long
  | 11 => .boolean
  | _ => .int
abbrev wsX00 : List Cond := u_ws RX0 TX0 13
theorem nmX0 : ∀ a, a < 13 → ∀ b, b < 13 → a ≠ b → (TX0 a).2.1 ≠ (TX0 b).2.1 := by decide +kernel
theorem tyX0_ok : ∀ k, k < 13 → parseFieldDescriptor (TX0 k).2.2.1 = some (tyX0 k) := by decide +kernel
abbrev cX0_init : ByteArray := prog_2_method_1_code
def yX0_init : MethodName := ⟨RX0, "<init>", "(III)V"⟩
abbrev cX0_isMoved : ByteArray := prog_2_method_2_code
def yX0_isMoved : MethodName := ⟨RX0, "isMoved", "()Z"⟩
abbrev cX0_kindNow : ByteArray := prog_2_method_3_code
def yX0_kindNow : MethodName := ⟨RX0, "kindNow", "()I"⟩
abbrev cX0_isDoubted : ByteArray := prog_2_method_4_code
def yX0_isDoubted : MethodName := ⟨RX0, "isDoubted", "()Z"⟩
abbrev cX0_setOf : ByteArray := prog_2_method_5_code
def yX0_setOf : MethodName := ⟨RX0, "setOf", "(I)I"⟩
abbrev cX0_hasValue : ByteArray := prog_2_method_6_code
def yX0_hasValue : MethodName := ⟨RX0, "hasValue", "(II)Z"⟩
abbrev cX0_partAt : ByteArray := prog_2_method_7_code
def yX0_partAt : MethodName := ⟨RX0, "partAt", "(I)I"⟩
abbrev cX0_partCount : ByteArray := prog_2_method_8_code
def yX0_partCount : MethodName := ⟨RX0, "partCount", "()I"⟩
abbrev cX0_putSets : ByteArray := prog_2_method_9_code
def yX0_putSets : MethodName := ⟨RX0, "putSets", "(III)V"⟩
abbrev cX0_putParts : ByteArray := prog_2_method_10_code
def yX0_putParts : MethodName := ⟨RX0, "putParts", "(IIII)V"⟩
abbrev cX0_takeAllOf : ByteArray := prog_2_method_11_code
def yX0_takeAllOf : MethodName := ⟨RX0, "takeAllOf", "(LAnswerKeeper$Answer;)V"⟩
abbrev cX0_clearGathered : ByteArray := prog_2_method_12_code
def yX0_clearGathered : MethodName := ⟨RX0, "clearGathered", "()V"⟩
abbrev cX0_gather : ByteArray := prog_2_method_13_code
def yX0_gather : MethodName := ⟨RX0, "gather", "(LAnswerKeeper$Answer;)V"⟩
def RX1 : String := "AnswerKeeper$Ask"
def TX1 : u_T := fun k => match k with
  | 0 => ("AnswerKeeper$Ask", "words", "J", true)
  | 1 => ("AnswerKeeper$Ask", "values", "[I", true)
  | _ => ("AnswerKeeper$Ask", "folded", "J", false)
def tyX1 : Nat → FieldType := fun k => match k with
  | 0 => .long
  | 1 => .array .int
  | _ => .long
abbrev wsX10 : List Cond := u_ws RX1 TX1 3
theorem nmX1 : ∀ a, a < 3 → ∀ b, b < 3 → a ≠ b → (TX1 a).2.1 ≠ (TX1 b).2.1 := by decide +kernel
theorem tyX1_ok : ∀ k, k < 3 → parseFieldDescriptor (TX1 k).2.2.1 = some (tyX1 k) := by decide +kernel
abbrev cX1_init : ByteArray := prog_3_method_1_code
def yX1_init : MethodName := ⟨RX1, "<init>", "(JIII)V"⟩
abbrev cX1_valueFor : ByteArray := prog_3_method_2_code
def yX1_valueFor : MethodName := ⟨RX1, "valueFor", "(I)I"⟩
def RX2 : String := "AnswerKeeper$Book"
def TX2 : u_T := fun k => match k with
  | _ => ("AnswerKeeper$Book", "folds", "[I", true)
def tyX2 : Nat → FieldType := fun k => match k with
  | _ => .array .int
abbrev wsX20 : List Cond := u_ws RX2 TX2 1
theorem nmX2 : ∀ a, a < 1 → ∀ b, b < 1 → a ≠ b → (TX2 a).2.1 ≠ (TX2 b).2.1 := by decide +kernel
theorem tyX2_ok : ∀ k, k < 1 → parseFieldDescriptor (TX2 k).2.2.1 = some (tyX2 k) := by decide +kernel
abbrev cX2_init : ByteArray := prog_4_method_1_code
def yX2_init : MethodName := ⟨RX2, "<init>", "()V"⟩
abbrev cX2_foldOf : ByteArray := prog_4_method_2_code
def yX2_foldOf : MethodName := ⟨RX2, "foldOf", "(I)I"⟩
abbrev cX2_turn : ByteArray := prog_4_method_3_code
def yX2_turn : MethodName := ⟨RX2, "turn", "(II)V"⟩
abbrev cX2_folded : ByteArray := prog_4_method_4_code
def yX2_folded : MethodName := ⟨RX2, "folded", "(J)J"⟩
def RX3 : String := "AnswerKeeper$Things"
def TX3 : u_T := fun k => match k with
  | 0 => ("AnswerKeeper$Things", "states", "[I", true)
  | 1 => ("AnswerKeeper$Things", "changedAt", "[I", true)
  | _ => ("AnswerKeeper$Things", "clock", "I", false)
def tyX3 : Nat → FieldType := fun k => match k with
  | 0 => .array .int
  | 1 => .array .int
  | _ => .int
abbrev wsX30 : List Cond := u_ws RX3 TX3 3
theorem nmX3 : ∀ a, a < 3 → ∀ b, b < 3 → a ≠ b → (TX3 a).2.1 ≠ (TX3 b).2.1 := by decide +kernel
theorem tyX3_ok : ∀ k, k < 3 → parseFieldDescriptor (TX3 k).2.2.1 = some (tyX3 k) := by decide +kernel
abbrev cX3_init : ByteArray := prog_5_method_1_code
def yX3_init : MethodName := ⟨RX3, "<init>", "()V"⟩
abbrev cX3_now : ByteArray := prog_5_method_2_code
def yX3_now : MethodName := ⟨RX3, "now", "()I"⟩
abbrev cX3_change : ByteArray := prog_5_method_3_code
def yX3_change : MethodName := ⟨RX3, "change", "(I)I"⟩
abbrev cX3_isChangedSince : ByteArray := prog_5_method_4_code
def yX3_isChangedSince : MethodName := ⟨RX3, "isChangedSince", "(II)Z"⟩
def RX4 : String := "AnswerKeeper"
def TX4 : u_T := fun k => match k with
  | 0 => ("AnswerKeeper", "book", "LAnswerKeeper$Book;", true)
  | 1 => ("AnswerKeeper", "things", "LAnswerKeeper$Things;", true)
  | 2 => ("AnswerKeeper", "answers", "[LAnswerKeeper$Answer;", true)
  | 3 => ("AnswerKeeper", "asks", "[LAnswerKeeper$Ask;", true)
  | 4 => ("AnswerKeeper", "answerCount", "I", false)
  | 5 => ("AnswerKeeper", "askCount", "I", false)
  | 6 => ("AnswerKeeper", "near", "I", false)
  | _ => ("AnswerKeeper", "limit", "I", false)
def tyX4 : Nat → FieldType := fun k => match k with
  | 0 => .object "AnswerKeeper$Book"
  | 1 => .object "AnswerKeeper$Things"
  | 2 => .array (.object "AnswerKeeper$Answer")
  | 3 => .array (.object "AnswerKeeper$Ask")
  | 4 => .int
  | 5 => .int
  | 6 => .int
  | _ => .int
abbrev wsX40 : List Cond := u_ws RX4 TX4 8
theorem nmX4 : ∀ a, a < 8 → ∀ b, b < 8 → a ≠ b → (TX4 a).2.1 ≠ (TX4 b).2.1 := by decide +kernel
theorem tyX4_ok : ∀ k, k < 8 → parseFieldDescriptor (TX4 k).2.2.1 = some (tyX4 k) := by decide +kernel
abbrev cX4_init : ByteArray := prog_1_method_1_code
def yX4_init : MethodName := ⟨RX4, "<init>", "()V"⟩
abbrev cX4_fold : ByteArray := prog_1_method_2_code
def yX4_fold : MethodName := ⟨RX4, "fold", "(II)I"⟩
abbrev cX4_changed : ByteArray := prog_1_method_3_code
def yX4_changed : MethodName := ⟨RX4, "changed", "(I)I"⟩
abbrev cX4_rule : ByteArray := prog_1_method_4_code
def yX4_rule : MethodName := ⟨RX4, "rule", "(II)I"⟩
abbrev cX4_answer : ByteArray := prog_1_method_5_code
def yX4_answer : MethodName := ⟨RX4, "answer", "(JIIII)I"⟩
abbrev cX4_join : ByteArray := prog_1_method_6_code
def yX4_join : MethodName := ⟨RX4, "join", "(IIII)I"⟩
abbrev cX4_bind : ByteArray := prog_1_method_7_code
def yX4_bind : MethodName := ⟨RX4, "bind", "(II)I"⟩
abbrev cX4_confirm : ByteArray := prog_1_method_8_code
def yX4_confirm : MethodName := ⟨RX4, "confirm", "(I)I"⟩
abbrev cX4_move : ByteArray := prog_1_method_9_code
def yX4_move : MethodName := ⟨RX4, "move", "(II)I"⟩
abbrev cX4_melt : ByteArray := prog_1_method_10_code
def yX4_melt : MethodName := ⟨RX4, "melt", "(II)I"⟩
abbrev cX4_vote : ByteArray := prog_1_method_11_code
def yX4_vote : MethodName := ⟨RX4, "vote", "(IZ)I"⟩
abbrev cX4_told : ByteArray := prog_1_method_12_code
def yX4_told : MethodName := ⟨RX4, "told", "(II)I"⟩
abbrev cX4_words : ByteArray := prog_1_method_13_code
def yX4_words : MethodName := ⟨RX4, "words", "(I)J"⟩
abbrev cX4_holds : ByteArray := prog_1_method_14_code
def yX4_holds : MethodName := ⟨RX4, "holds", "(IIII)I"⟩
abbrev cX4_count : ByteArray := prog_1_method_15_code
def yX4_count : MethodName := ⟨RX4, "count", "(I)I"⟩
abbrev cX4_quarrel : ByteArray := prog_1_method_16_code
def yX4_quarrel : MethodName := ⟨RX4, "quarrel", "(II)I"⟩
abbrev cX4_ask : ByteArray := prog_1_method_17_code
def yX4_ask : MethodName := ⟨RX4, "ask", "(JIII)I"⟩
abbrev cX4_found : ByteArray := prog_1_method_18_code
def yX4_found : MethodName := ⟨RX4, "found", "(III)I"⟩
abbrev cX4_cost : ByteArray := prog_1_method_19_code
def yX4_cost : MethodName := ⟨RX4, "cost", "(II)I"⟩
abbrev cX4_asked : ByteArray := prog_1_method_20_code
def yX4_asked : MethodName := ⟨RX4, "asked", "(II)I"⟩
abbrev cX4_answerAt : ByteArray := prog_1_method_21_code
def yX4_answerAt : MethodName := ⟨RX4, "answerAt", "(I)LAnswerKeeper$Answer;"⟩
abbrev cX4_askAt : ByteArray := prog_1_method_22_code
def yX4_askAt : MethodName := ⟨RX4, "askAt", "(I)LAnswerKeeper$Ask;"⟩
abbrev cX4_isAnswer : ByteArray := prog_1_method_23_code
def yX4_isAnswer : MethodName := ⟨RX4, "isAnswer", "(I)Z"⟩
abbrev cX4_within : ByteArray := prog_1_method_24_code
def yX4_within : MethodName := ⟨RX4, "within", "(III)Z"⟩
abbrev cX4_isWord : ByteArray := prog_1_method_25_code
def yX4_isWord : MethodName := ⟨RX4, "isWord", "(I)Z"⟩
abbrev cX4_isSetOfWords : ByteArray := prog_1_method_26_code
def yX4_isSetOfWords : MethodName := ⟨RX4, "isSetOfWords", "(J)Z"⟩
abbrev cX4_allValues : ByteArray := prog_1_method_27_code
def yX4_allValues : MethodName := ⟨RX4, "allValues", "(I)I"⟩
abbrev cX4_isSetOfValues : ByteArray := prog_1_method_28_code
def yX4_isSetOfValues : MethodName := ⟨RX4, "isSetOfValues", "(II)Z"⟩
abbrev cX4_isValue : ByteArray := prog_1_method_29_code
def yX4_isValue : MethodName := ⟨RX4, "isValue", "(II)Z"⟩
abbrev cX4_isValueOrNone : ByteArray := prog_1_method_30_code
def yX4_isValueOrNone : MethodName := ⟨RX4, "isValueOrNone", "(II)Z"⟩
abbrev cX4_bit : ByteArray := prog_1_method_31_code
def yX4_bit : MethodName := ⟨RX4, "bit", "(I)I"⟩
abbrev cX4_least : ByteArray := prog_1_method_32_code
def yX4_least : MethodName := ⟨RX4, "least", "(I)I"⟩
abbrev cX4_far : ByteArray := prog_1_method_33_code
def yX4_far : MethodName := ⟨RX4, "far", "(JJ)I"⟩
abbrev cX4_keep : ByteArray := prog_1_method_34_code
def yX4_keep : MethodName := ⟨RX4, "keep", "(LAnswerKeeper$Answer;)V"⟩
abbrev cX4_endOf : ByteArray := prog_1_method_35_code
def yX4_endOf : MethodName := ⟨RX4, "endOf", "(I)LAnswerKeeper$Answer;"⟩
abbrev cX4_leadOn : ByteArray := prog_1_method_36_code
def yX4_leadOn : MethodName := ⟨RX4, "leadOn", "(II)V"⟩
abbrev cX4_partNow : ByteArray := prog_1_method_37_code
def yX4_partNow : MethodName := ⟨RX4, "partNow", "(LAnswerKeeper$Answer;I)I"⟩
abbrev cX4_areAllPlain : ByteArray := prog_1_method_38_code
def yX4_areAllPlain : MethodName := ⟨RX4, "areAllPlain", "(I)Z"⟩
abbrev cX4_mayMelt : ByteArray := prog_1_method_39_code
def yX4_mayMelt : MethodName := ⟨RX4, "mayMelt", "(LAnswerKeeper$Answer;LAnswerKeeper$Answer;)Z"⟩
abbrev cX4_likeSets : ByteArray := prog_1_method_40_code
def yX4_likeSets : MethodName := ⟨RX4, "likeSets", "(LAnswerKeeper$Answer;LAnswerKeeper$Answer;)I"⟩
abbrev cX4_isInside : ByteArray := prog_1_method_41_code
def yX4_isInside : MethodName := ⟨RX4, "isInside", "(LAnswerKeeper$Answer;LAnswerKeeper$Answer;)Z"⟩
abbrev cX4_settle : ByteArray := prog_1_method_42_code
def yX4_settle : MethodName := ⟨RX4, "settle", "()V"⟩
abbrev cX4_settlePlain : ByteArray := prog_1_method_43_code
def yX4_settlePlain : MethodName := ⟨RX4, "settlePlain", "(LAnswerKeeper$Answer;)V"⟩
abbrev cX4_settleUnder : ByteArray := prog_1_method_44_code
def yX4_settleUnder : MethodName := ⟨RX4, "settleUnder", "()V"⟩
abbrev cX4_widenUnder : ByteArray := prog_1_method_45_code
def yX4_widenUnder : MethodName := ⟨RX4, "widenUnder", "(LAnswerKeeper$Answer;)Z"⟩
abbrev cX4_settleJoined : ByteArray := prog_1_method_46_code
def yX4_settleJoined : MethodName := ⟨RX4, "settleJoined", "(LAnswerKeeper$Answer;)V"⟩
abbrev cX4_kindCount : ByteArray := prog_1_method_47_code
def yX4_kindCount : MethodName := ⟨RX4, "kindCount", "(I)I"⟩
abbrev cX4_doubtedCount : ByteArray := prog_1_method_48_code
def yX4_doubtedCount : MethodName := ⟨RX4, "doubtedCount", "()I"⟩
abbrev cX4_quarrelCount : ByteArray := prog_1_method_49_code
def yX4_quarrelCount : MethodName := ⟨RX4, "quarrelCount", "()I"⟩
abbrev cX4_areQuarrelling : ByteArray := prog_1_method_50_code
def yX4_areQuarrelling : MethodName := ⟨RX4, "areQuarrelling", "(LAnswerKeeper$Answer;LAnswerKeeper$Answer;)Z"⟩
abbrev cX4_quarrelPart : ByteArray := prog_1_method_51_code
def yX4_quarrelPart : MethodName := ⟨RX4, "quarrelPart", "(III)I"⟩
abbrev cX4_isFit : ByteArray := prog_1_method_52_code
def yX4_isFit : MethodName := ⟨RX4, "isFit", "(LAnswerKeeper$Ask;LAnswerKeeper$Answer;)Z"⟩
abbrev cX4_questionOf : ByteArray := prog_1_method_53_code
def yX4_questionOf : MethodName := ⟨RX4, "questionOf", "(LAnswerKeeper$Ask;LAnswerKeeper$Answer;)I"⟩
abbrev cX4_costOf : ByteArray := prog_1_method_54_code
def yX4_costOf : MethodName := ⟨RX4, "costOf", "(JLAnswerKeeper$Ask;LAnswerKeeper$Answer;)I"⟩
abbrev cX4_isFound : ByteArray := prog_1_method_55_code
def yX4_isFound : MethodName := ⟨RX4, "isFound", "(JLAnswerKeeper$Ask;LAnswerKeeper$Answer;)Z"⟩
abbrev cX4_findsSome : ByteArray := prog_1_method_56_code
def yX4_findsSome : MethodName := ⟨RX4, "findsSome", "(JLAnswerKeeper$Ask;)Z"⟩
abbrev cX4_foundCount : ByteArray := prog_1_method_57_code
def yX4_foundCount : MethodName := ⟨RX4, "foundCount", "(LAnswerKeeper$Ask;)I"⟩
abbrev cX4_foundAt : ByteArray := prog_1_method_58_code
def yX4_foundAt : MethodName := ⟨RX4, "foundAt", "(LAnswerKeeper$Ask;I)LAnswerKeeper$Answer;"⟩
abbrev cX4_betterCount : ByteArray := prog_1_method_59_code
def yX4_betterCount : MethodName := ⟨RX4, "betterCount", "(LAnswerKeeper$Ask;LAnswerKeeper$Answer;)I"⟩
abbrev cX4_helpFor : ByteArray := prog_1_method_60_code
def yX4_helpFor : MethodName := ⟨RX4, "helpFor", "(LAnswerKeeper$Ask;)I"⟩
abbrev cX4_asksInVain : ByteArray := prog_1_method_61_code
def yX4_asksInVain : MethodName := ⟨RX4, "asksInVain", "()I"⟩
abbrev cX4_heapCount : ByteArray := prog_1_method_62_code
def yX4_heapCount : MethodName := ⟨RX4, "heapCount", "(I)I"⟩
abbrev cX4_heapOf : ByteArray := prog_1_method_63_code
def yX4_heapOf : MethodName := ⟨RX4, "heapOf", "(II)I"⟩
abbrev cX4_heapFrom : ByteArray := prog_1_method_64_code
def yX4_heapFrom : MethodName := ⟨RX4, "heapFrom", "(II)I"⟩
abbrev cX4_isNearOne : ByteArray := prog_1_method_65_code
def yX4_isNearOne : MethodName := ⟨RX4, "isNearOne", "(LAnswerKeeper$Ask;I)Z"⟩
def RX5 : String := "AnswerKeeperModel"
def TX5 : u_T := fun k => match k with
  | 0 => ("AnswerKeeperModel", "book", "[I", true)
  | 1 => ("AnswerKeeperModel", "states", "[I", true)
  | 2 => ("AnswerKeeperModel", "changedAt", "[I", true)
  | 3 => ("AnswerKeeperModel", "time", "I", false)
  | 4 => ("AnswerKeeperModel", "near", "I", false)
  | 5 => ("AnswerKeeperModel", "limit", "I", false)
  | 6 => ("AnswerKeeperModel", "answers", "I", false)
  | 7 => ("AnswerKeeperModel", "kinds", "[I", true)
  | 8 => ("AnswerKeeperModel", "leads", "[I", true)
  | 9 => ("AnswerKeeperModel", "words", "[J", true)
  | 10 => ("AnswerKeeperModel", "steps", "[I", true)
  | 11 => ("AnswerKeeperModel", "sets", "[I", true)
  | 12 => ("AnswerKeeperModel", "bound", "[I", true)
  | 13 => ("AnswerKeeperModel", "sure", "[I", true)
  | 14 => ("AnswerKeeperModel", "votes", "[I", true)
  | 15 => ("AnswerKeeperModel", "parts", "[I", true)
  | 16 => ("AnswerKeeperModel", "asks", "I", false)
  | 17 => ("AnswerKeeperModel", "askWords", "[J", true)
  | 18 => ("AnswerKeeperModel", "askValues", "[I", true)
  | 19 => ("AnswerKeeperModel", "known", "[Z", true)
  | 20 => ("AnswerKeeperModel", "allWords", "[J", true)
  | 21 => ("AnswerKeeperModel", "allSets", "[I", true)
  | 22 => ("AnswerKeeperModel", "allThings", "[I", true)
  | 23 => ("AnswerKeeperModel", "doubted", "[Z", true)
  | _ => ("AnswerKeeperModel", "heaps", "[I", true)
def tyX5 : Nat → FieldType := fun k => match k with
  | 0 => .array .int
  | 1 => .array .int
  | 2 => .array .int
  | 3 => .int
  | 4 => .int
  | 5 => .int
  | 6 => .int
  | 7 => .array .int
  | 8 => .array .int
  | 9 => .array .long
  | 10 => .array .int
  | 11 => .array .int
  | 12 => .array .int
  | 13 => .array .int
  | 14 => .array .int
  | 15 => .array .int
  | 16 => .int
  | 17 => .array .long
  | 18 => .array .int
  | 19 => .array .boolean
  | 20 => .array .long
  | 21 => .array .int
  | 22 => .array .int
  | 23 => .array .boolean
  | _ => .array .int
abbrev wsX50 : List Cond := u_ws RX5 TX5 25
theorem nmX5 : ∀ a, a < 25 → ∀ b, b < 25 → a ≠ b → (TX5 a).2.1 ≠ (TX5 b).2.1 := by decide +kernel
theorem tyX5_ok : ∀ k, k < 25 → parseFieldDescriptor (TX5 k).2.2.1 = some (tyX5 k) := by decide +kernel
abbrev cX5_init : ByteArray := prog_7_method_1_code
def yX5_init : MethodName := ⟨RX5, "<init>", "()V"⟩
abbrev cX5_in : ByteArray := prog_7_method_3_code
def yX5_in : MethodName := ⟨RX5, "in", "(JJJ)Z"⟩
abbrev cX5_is : ByteArray := prog_7_method_4_code
def yX5_is : MethodName := ⟨RX5, "is", "(I)Z"⟩
abbrev cX5_isPlain : ByteArray := prog_7_method_5_code
def yX5_isPlain : MethodName := ⟨RX5, "isPlain", "(I)Z"⟩
abbrev cX5_endOf : ByteArray := prog_7_method_6_code
def yX5_endOf : MethodName := ⟨RX5, "endOf", "(I)I"⟩
abbrev cX5_allOf : ByteArray := prog_7_method_7_code
def yX5_allOf : MethodName := ⟨RX5, "allOf", "(I)I"⟩
abbrev cX5_fold : ByteArray := prog_7_method_8_code
def yX5_fold : MethodName := ⟨RX5, "fold", "(II)I"⟩
abbrev cX5_folded : ByteArray := prog_7_method_9_code
def yX5_folded : MethodName := ⟨RX5, "folded", "(J)J"⟩
abbrev cX5_many : ByteArray := prog_7_method_10_code
def yX5_many : MethodName := ⟨RX5, "many", "(J)I"⟩
abbrev cX5_changed : ByteArray := prog_7_method_11_code
def yX5_changed : MethodName := ⟨RX5, "changed", "(I)I"⟩
abbrev cX5_rule : ByteArray := prog_7_method_12_code
def yX5_rule : MethodName := ⟨RX5, "rule", "(II)I"⟩
abbrev cX5_fresh : ByteArray := prog_7_method_13_code
def yX5_fresh : MethodName := ⟨RX5, "fresh", "(I)I"⟩
abbrev cX5_answer : ByteArray := prog_7_method_14_code
def yX5_answer : MethodName := ⟨RX5, "answer", "(JIIII)I"⟩
abbrev cX5_join : ByteArray := prog_7_method_15_code
def yX5_join : MethodName := ⟨RX5, "join", "(IIII)I"⟩
abbrev cX5_bind : ByteArray := prog_7_method_16_code
def yX5_bind : MethodName := ⟨RX5, "bind", "(II)I"⟩
abbrev cX5_confirm : ByteArray := prog_7_method_17_code
def yX5_confirm : MethodName := ⟨RX5, "confirm", "(I)I"⟩
abbrev cX5_workPlain : ByteArray := prog_7_method_18_code
def yX5_workPlain : MethodName := ⟨RX5, "workPlain", "(I)V"⟩
abbrev cX5_workJoined : ByteArray := prog_7_method_19_code
def yX5_workJoined : MethodName := ⟨RX5, "workJoined", "(I)V"⟩
abbrev cX5_work : ByteArray := prog_7_method_20_code
def yX5_work : MethodName := ⟨RX5, "work", "()V"⟩
abbrev cX5_hasPart : ByteArray := prog_7_method_21_code
def yX5_hasPart : MethodName := ⟨RX5, "hasPart", "(II)Z"⟩
abbrev cX5_move : ByteArray := prog_7_method_22_code
def yX5_move : MethodName := ⟨RX5, "move", "(II)I"⟩
abbrev cX5_isWithin : ByteArray := prog_7_method_23_code
def yX5_isWithin : MethodName := ⟨RX5, "isWithin", "(II)Z"⟩
abbrev cX5_melt : ByteArray := prog_7_method_24_code
def yX5_melt : MethodName := ⟨RX5, "melt", "(II)I"⟩
abbrev cX5_vote : ByteArray := prog_7_method_25_code
def yX5_vote : MethodName := ⟨RX5, "vote", "(IZ)I"⟩
abbrev cX5_partMany : ByteArray := prog_7_method_26_code
def yX5_partMany : MethodName := ⟨RX5, "partMany", "(I)I"⟩
abbrev cX5_told : ByteArray := prog_7_method_27_code
def yX5_told : MethodName := ⟨RX5, "told", "(II)I"⟩
abbrev cX5_words : ByteArray := prog_7_method_28_code
def yX5_words : MethodName := ⟨RX5, "words", "(I)J"⟩
abbrev cX5_isValue : ByteArray := prog_7_method_29_code
def yX5_isValue : MethodName := ⟨RX5, "isValue", "(II)Z"⟩
abbrev cX5_holds : ByteArray := prog_7_method_30_code
def yX5_holds : MethodName := ⟨RX5, "holds", "(IIII)I"⟩
abbrev cX5_far : ByteArray := prog_7_method_31_code
def yX5_far : MethodName := ⟨RX5, "far", "(JJ)I"⟩
abbrev cX5_quarrels : ByteArray := prog_7_method_32_code
def yX5_quarrels : MethodName := ⟨RX5, "quarrels", "(II)Z"⟩
abbrev cX5_leastOf : ByteArray := prog_7_method_33_code
def yX5_leastOf : MethodName := ⟨RX5, "leastOf", "(I)I"⟩
abbrev cX5_quarrel : ByteArray := prog_7_method_34_code
def yX5_quarrel : MethodName := ⟨RX5, "quarrel", "(II)I"⟩
abbrev cX5_ask : ByteArray := prog_7_method_35_code
def yX5_ask : MethodName := ⟨RX5, "ask", "(JIII)I"⟩
abbrev cX5_isAsk : ByteArray := prog_7_method_36_code
def yX5_isAsk : MethodName := ⟨RX5, "isAsk", "(I)Z"⟩
abbrev cX5_isFit : ByteArray := prog_7_method_37_code
def yX5_isFit : MethodName := ⟨RX5, "isFit", "(II)Z"⟩
abbrev cX5_questionOf : ByteArray := prog_7_method_38_code
def yX5_questionOf : MethodName := ⟨RX5, "questionOf", "(II)I"⟩
abbrev cX5_costWith : ByteArray := prog_7_method_39_code
def yX5_costWith : MethodName := ⟨RX5, "costWith", "(JII)I"⟩
abbrev cX5_findsWith : ByteArray := prog_7_method_40_code
def yX5_findsWith : MethodName := ⟨RX5, "findsWith", "(JI)I"⟩
abbrev cX5_cost : ByteArray := prog_7_method_41_code
def yX5_cost : MethodName := ⟨RX5, "cost", "(II)I"⟩
abbrev cX5_found : ByteArray := prog_7_method_42_code
def yX5_found : MethodName := ⟨RX5, "found", "(III)I"⟩
abbrev cX5_findHeaps : ByteArray := prog_7_method_43_code
def yX5_findHeaps : MethodName := ⟨RX5, "findHeaps", "()V"⟩
abbrev cX5_heapOf : ByteArray := prog_7_method_44_code
def yX5_heapOf : MethodName := ⟨RX5, "heapOf", "(I)I"⟩
abbrev cX5_helpOf : ByteArray := prog_7_method_45_code
def yX5_helpOf : MethodName := ⟨RX5, "helpOf", "(I)I"⟩
abbrev cX5_asked : ByteArray := prog_7_method_46_code
def yX5_asked : MethodName := ⟨RX5, "asked", "(II)I"⟩
abbrev cX5_counted : ByteArray := prog_7_method_47_code
def yX5_counted : MethodName := ⟨RX5, "counted", "(II)I"⟩
abbrev cX5_count : ByteArray := prog_7_method_48_code
def yX5_count : MethodName := ⟨RX5, "count", "(I)I"⟩
def RJ6 : String := "java/lang/Integer"
def TJ6 : u_T := fun k => match k with
  | _ => ("", "", "", false)
abbrev cJ6_bitCount_0f7a4 : ByteArray := prog_8_method_49_code
def yJ6_bitCount_0f7a4 : MethodName := ⟨RJ6, "bitCount", "(I)I"⟩
def RJ13 : String := "java/lang/Long"
def TJ13 : u_T := fun k => match k with
  | _ => ("", "", "", false)
abbrev cJ13_bitCount_95d88 : ByteArray := prog_9_method_50_code
def yJ13_bitCount_95d88 : MethodName := ⟨RJ13, "bitCount", "(J)I"⟩
def RJ9 : String := "java/lang/Math"
def TJ9 : u_T := fun k => match k with
  | _ => ("", "", "", false)
abbrev cJ9_max_7cf53 : ByteArray := prog_10_method_65_code
def yJ9_max_7cf53 : MethodName := ⟨RJ9, "max", "(II)I"⟩
abbrev cJ9_min_7cf53 : ByteArray := prog_10_method_69_code
def yJ9_min_7cf53 : MethodName := ⟨RJ9, "min", "(II)I"⟩
def RL : String := "AnswerKeeperLaw"
abbrev cL_law : ByteArray := code
def yL_law : MethodName := ⟨RL, "law", "([I)Z"⟩
abbrev vwCl : List vw_C := [(RX0, TX0, 13), (RX1, TX1, 3), (RX2, TX2, 1), (RX3, TX3, 3), (RX4, TX4, 8), (RX5, TX5, 25)]
