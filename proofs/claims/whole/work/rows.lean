section
-- ===== PART A: goes FIRST, ahead of the names: the tables' words, and 'selects' of the private methods out of them =====
/-- a private method of a class that the tables say can be made, by its rows of tables_1 -/
def lw_okq (q : MethodName × Nat) : Prop := (q.1.cls ≠ "java/lang/invoke/MethodHandle" ∧ q.1.cls ≠ "java/lang/invoke/VarHandle") ∧ Cond.instantiable q.1.cls q.2 ∈ tables_1 ∧ Cond.privateMethod q.1 ∈ tables_1 ∧ Cond.instanceMethod q.1 ∈ tables_1
theorem lw_p0 : lw_okq (⟨"AnswerKeeper", "settle", "()V"⟩, 8) := ⟨⟨by decide +kernel, by decide +kernel⟩, List.mem_of_getElem? (i := 11) (by decide +kernel), List.mem_of_getElem? (i := 93) (by decide +kernel), List.mem_of_getElem? (i := 94) (by decide +kernel)⟩
theorem lw_p1 : lw_okq (⟨"AnswerKeeper", "answerAt", "(I)LAnswerKeeper$Answer;"⟩, 8) := ⟨⟨by decide +kernel, by decide +kernel⟩, List.mem_of_getElem? (i := 11) (by decide +kernel), List.mem_of_getElem? (i := 97) (by decide +kernel), List.mem_of_getElem? (i := 98) (by decide +kernel)⟩
theorem lw_p2 : lw_okq (⟨"AnswerKeeper", "settlePlain", "(LAnswerKeeper$Answer;)V"⟩, 8) := ⟨⟨by decide +kernel, by decide +kernel⟩, List.mem_of_getElem? (i := 11) (by decide +kernel), List.mem_of_getElem? (i := 101) (by decide +kernel), List.mem_of_getElem? (i := 102) (by decide +kernel)⟩
theorem lw_p3 : lw_okq (⟨"AnswerKeeper", "settleUnder", "()V"⟩, 8) := ⟨⟨by decide +kernel, by decide +kernel⟩, List.mem_of_getElem? (i := 11) (by decide +kernel), List.mem_of_getElem? (i := 116) (by decide +kernel), List.mem_of_getElem? (i := 117) (by decide +kernel)⟩
theorem lw_p4 : lw_okq (⟨"AnswerKeeper", "widenUnder", "(LAnswerKeeper$Answer;)V"⟩, 8) := ⟨⟨by decide +kernel, by decide +kernel⟩, List.mem_of_getElem? (i := 11) (by decide +kernel), List.mem_of_getElem? (i := 120) (by decide +kernel), List.mem_of_getElem? (i := 121) (by decide +kernel)⟩
theorem lw_p5 : lw_okq (⟨"AnswerKeeper", "endOf", "(I)LAnswerKeeper$Answer;"⟩, 8) := ⟨⟨by decide +kernel, by decide +kernel⟩, List.mem_of_getElem? (i := 11) (by decide +kernel), List.mem_of_getElem? (i := 128) (by decide +kernel), List.mem_of_getElem? (i := 129) (by decide +kernel)⟩
theorem lw_p6 : lw_okq (⟨"AnswerKeeper", "settleJoined", "(LAnswerKeeper$Answer;)V"⟩, 8) := ⟨⟨by decide +kernel, by decide +kernel⟩, List.mem_of_getElem? (i := 11) (by decide +kernel), List.mem_of_getElem? (i := 133) (by decide +kernel), List.mem_of_getElem? (i := 134) (by decide +kernel)⟩
theorem lw_p7 : lw_okq (⟨"AnswerKeeper", "askAt", "(I)LAnswerKeeper$Ask;"⟩, 8) := ⟨⟨by decide +kernel, by decide +kernel⟩, List.mem_of_getElem? (i := 11) (by decide +kernel), List.mem_of_getElem? (i := 154) (by decide +kernel), List.mem_of_getElem? (i := 155) (by decide +kernel)⟩
theorem lw_p8 : lw_okq (⟨"AnswerKeeper", "keep", "(LAnswerKeeper$Answer;)V"⟩, 8) := ⟨⟨by decide +kernel, by decide +kernel⟩, List.mem_of_getElem? (i := 11) (by decide +kernel), List.mem_of_getElem? (i := 246) (by decide +kernel), List.mem_of_getElem? (i := 247) (by decide +kernel)⟩
theorem lw_p9 : lw_okq (⟨"AnswerKeeper", "isAnswer", "(I)Z"⟩, 8) := ⟨⟨by decide +kernel, by decide +kernel⟩, List.mem_of_getElem? (i := 11) (by decide +kernel), List.mem_of_getElem? (i := 254) (by decide +kernel), List.mem_of_getElem? (i := 255) (by decide +kernel)⟩
theorem lw_p10 : lw_okq (⟨"AnswerKeeper", "areAllPlain", "(I)Z"⟩, 8) := ⟨⟨by decide +kernel, by decide +kernel⟩, List.mem_of_getElem? (i := 11) (by decide +kernel), List.mem_of_getElem? (i := 264) (by decide +kernel), List.mem_of_getElem? (i := 265) (by decide +kernel)⟩
theorem lw_p11 : lw_okq (⟨"AnswerKeeper", "leadOn", "(II)V"⟩, 8) := ⟨⟨by decide +kernel, by decide +kernel⟩, List.mem_of_getElem? (i := 11) (by decide +kernel), List.mem_of_getElem? (i := 297) (by decide +kernel), List.mem_of_getElem? (i := 298) (by decide +kernel)⟩
theorem lw_p12 : lw_okq (⟨"AnswerKeeper", "partNow", "(LAnswerKeeper$Answer;I)I"⟩, 8) := ⟨⟨by decide +kernel, by decide +kernel⟩, List.mem_of_getElem? (i := 11) (by decide +kernel), List.mem_of_getElem? (i := 334) (by decide +kernel), List.mem_of_getElem? (i := 335) (by decide +kernel)⟩
theorem lw_p13 : lw_okq (⟨"AnswerKeeper", "kindCount", "(I)I"⟩, 8) := ⟨⟨by decide +kernel, by decide +kernel⟩, List.mem_of_getElem? (i := 11) (by decide +kernel), List.mem_of_getElem? (i := 359) (by decide +kernel), List.mem_of_getElem? (i := 360) (by decide +kernel)⟩
theorem lw_p14 : lw_okq (⟨"AnswerKeeper", "doubtedCount", "()I"⟩, 8) := ⟨⟨by decide +kernel, by decide +kernel⟩, List.mem_of_getElem? (i := 11) (by decide +kernel), List.mem_of_getElem? (i := 363) (by decide +kernel), List.mem_of_getElem? (i := 364) (by decide +kernel)⟩
theorem lw_p15 : lw_okq (⟨"AnswerKeeper", "quarrelCount", "()I"⟩, 8) := ⟨⟨by decide +kernel, by decide +kernel⟩, List.mem_of_getElem? (i := 11) (by decide +kernel), List.mem_of_getElem? (i := 367) (by decide +kernel), List.mem_of_getElem? (i := 368) (by decide +kernel)⟩
def lw_privs_1 : List (MethodName × Nat) := [(⟨"AnswerKeeper", "settle", "()V"⟩, 8), (⟨"AnswerKeeper", "answerAt", "(I)LAnswerKeeper$Answer;"⟩, 8), (⟨"AnswerKeeper", "settlePlain", "(LAnswerKeeper$Answer;)V"⟩, 8), (⟨"AnswerKeeper", "settleUnder", "()V"⟩, 8), (⟨"AnswerKeeper", "widenUnder", "(LAnswerKeeper$Answer;)V"⟩, 8), (⟨"AnswerKeeper", "endOf", "(I)LAnswerKeeper$Answer;"⟩, 8), (⟨"AnswerKeeper", "settleJoined", "(LAnswerKeeper$Answer;)V"⟩, 8), (⟨"AnswerKeeper", "askAt", "(I)LAnswerKeeper$Ask;"⟩, 8), (⟨"AnswerKeeper", "keep", "(LAnswerKeeper$Answer;)V"⟩, 8), (⟨"AnswerKeeper", "isAnswer", "(I)Z"⟩, 8), (⟨"AnswerKeeper", "areAllPlain", "(I)Z"⟩, 8), (⟨"AnswerKeeper", "leadOn", "(II)V"⟩, 8), (⟨"AnswerKeeper", "partNow", "(LAnswerKeeper$Answer;I)I"⟩, 8), (⟨"AnswerKeeper", "kindCount", "(I)I"⟩, 8), (⟨"AnswerKeeper", "doubtedCount", "()I"⟩, 8), (⟨"AnswerKeeper", "quarrelCount", "()I"⟩, 8)]
theorem lw_r1 : ∀ q ∈ lw_privs_1, lw_okq q := List.forall_mem_cons.mpr ⟨lw_p0, List.forall_mem_cons.mpr ⟨lw_p1, List.forall_mem_cons.mpr ⟨lw_p2, List.forall_mem_cons.mpr ⟨lw_p3, List.forall_mem_cons.mpr ⟨lw_p4, List.forall_mem_cons.mpr ⟨lw_p5, List.forall_mem_cons.mpr ⟨lw_p6, List.forall_mem_cons.mpr ⟨lw_p7, List.forall_mem_cons.mpr ⟨lw_p8, List.forall_mem_cons.mpr ⟨lw_p9, List.forall_mem_cons.mpr ⟨lw_p10, List.forall_mem_cons.mpr ⟨lw_p11, List.forall_mem_cons.mpr ⟨lw_p12, List.forall_mem_cons.mpr ⟨lw_p13, List.forall_mem_cons.mpr ⟨lw_p14, List.forall_mem_cons.mpr ⟨lw_p15, fun _ h => absurd h List.not_mem_nil⟩⟩⟩⟩⟩⟩⟩⟩⟩⟩⟩⟩⟩⟩⟩⟩
theorem lw_p16 : lw_okq (⟨"AnswerKeeper", "areQuarrelling", "(LAnswerKeeper$Answer;LAnswerKeeper$Answer;)Z"⟩, 8) := ⟨⟨by decide +kernel, by decide +kernel⟩, List.mem_of_getElem? (i := 11) (by decide +kernel), List.mem_of_getElem? (i := 371) (by decide +kernel), List.mem_of_getElem? (i := 372) (by decide +kernel)⟩
theorem lw_p17 : lw_okq (⟨"AnswerKeeper", "asksInVain", "()I"⟩, 8) := ⟨⟨by decide +kernel, by decide +kernel⟩, List.mem_of_getElem? (i := 11) (by decide +kernel), List.mem_of_getElem? (i := 384) (by decide +kernel), List.mem_of_getElem? (i := 385) (by decide +kernel)⟩
theorem lw_p18 : lw_okq (⟨"AnswerKeeper", "findsSome", "(JLAnswerKeeper$Ask;)Z"⟩, 8) := ⟨⟨by decide +kernel, by decide +kernel⟩, List.mem_of_getElem? (i := 11) (by decide +kernel), List.mem_of_getElem? (i := 388) (by decide +kernel), List.mem_of_getElem? (i := 389) (by decide +kernel)⟩
theorem lw_p19 : lw_okq (⟨"AnswerKeeper", "isFound", "(JLAnswerKeeper$Ask;LAnswerKeeper$Answer;)Z"⟩, 8) := ⟨⟨by decide +kernel, by decide +kernel⟩, List.mem_of_getElem? (i := 11) (by decide +kernel), List.mem_of_getElem? (i := 392) (by decide +kernel), List.mem_of_getElem? (i := 393) (by decide +kernel)⟩
theorem lw_p20 : lw_okq (⟨"AnswerKeeper", "heapCount", "(I)I"⟩, 8) := ⟨⟨by decide +kernel, by decide +kernel⟩, List.mem_of_getElem? (i := 11) (by decide +kernel), List.mem_of_getElem? (i := 414) (by decide +kernel), List.mem_of_getElem? (i := 415) (by decide +kernel)⟩
theorem lw_p21 : lw_okq (⟨"AnswerKeeper", "heapFrom", "(II)I"⟩, 8) := ⟨⟨by decide +kernel, by decide +kernel⟩, List.mem_of_getElem? (i := 11) (by decide +kernel), List.mem_of_getElem? (i := 418) (by decide +kernel), List.mem_of_getElem? (i := 419) (by decide +kernel)⟩
theorem lw_p22 : lw_okq (⟨"AnswerKeeper", "isNearOne", "(LAnswerKeeper$Ask;I)Z"⟩, 8) := ⟨⟨by decide +kernel, by decide +kernel⟩, List.mem_of_getElem? (i := 11) (by decide +kernel), List.mem_of_getElem? (i := 422) (by decide +kernel), List.mem_of_getElem? (i := 423) (by decide +kernel)⟩
theorem lw_p23 : lw_okq (⟨"AnswerKeeper", "quarrelPart", "(III)I"⟩, 8) := ⟨⟨by decide +kernel, by decide +kernel⟩, List.mem_of_getElem? (i := 11) (by decide +kernel), List.mem_of_getElem? (i := 430) (by decide +kernel), List.mem_of_getElem? (i := 431) (by decide +kernel)⟩
theorem lw_p24 : lw_okq (⟨"AnswerKeeper", "foundAt", "(LAnswerKeeper$Ask;I)LAnswerKeeper$Answer;"⟩, 8) := ⟨⟨by decide +kernel, by decide +kernel⟩, List.mem_of_getElem? (i := 11) (by decide +kernel), List.mem_of_getElem? (i := 465) (by decide +kernel), List.mem_of_getElem? (i := 466) (by decide +kernel)⟩
theorem lw_p25 : lw_okq (⟨"AnswerKeeper", "betterCount", "(LAnswerKeeper$Ask;LAnswerKeeper$Answer;)I"⟩, 8) := ⟨⟨by decide +kernel, by decide +kernel⟩, List.mem_of_getElem? (i := 11) (by decide +kernel), List.mem_of_getElem? (i := 469) (by decide +kernel), List.mem_of_getElem? (i := 470) (by decide +kernel)⟩
theorem lw_p26 : lw_okq (⟨"AnswerKeeper", "heapOf", "(II)I"⟩, 8) := ⟨⟨by decide +kernel, by decide +kernel⟩, List.mem_of_getElem? (i := 11) (by decide +kernel), List.mem_of_getElem? (i := 481) (by decide +kernel), List.mem_of_getElem? (i := 482) (by decide +kernel)⟩
theorem lw_p27 : lw_okq (⟨"AnswerKeeper", "helpFor", "(LAnswerKeeper$Ask;)I"⟩, 8) := ⟨⟨by decide +kernel, by decide +kernel⟩, List.mem_of_getElem? (i := 11) (by decide +kernel), List.mem_of_getElem? (i := 485) (by decide +kernel), List.mem_of_getElem? (i := 486) (by decide +kernel)⟩
theorem lw_p28 : lw_okq (⟨"AnswerKeeper", "foundCount", "(LAnswerKeeper$Ask;)I"⟩, 8) := ⟨⟨by decide +kernel, by decide +kernel⟩, List.mem_of_getElem? (i := 11) (by decide +kernel), List.mem_of_getElem? (i := 489) (by decide +kernel), List.mem_of_getElem? (i := 490) (by decide +kernel)⟩
theorem lw_p29 : lw_okq (⟨"AnswerKeeperModel", "fresh", "(I)I"⟩, 25) := ⟨⟨by decide +kernel, by decide +kernel⟩, List.mem_of_getElem? (i := 493) (by decide +kernel), List.mem_of_getElem? (i := 605) (by decide +kernel), List.mem_of_getElem? (i := 606) (by decide +kernel)⟩
theorem lw_p30 : lw_okq (⟨"AnswerKeeperModel", "is", "(I)Z"⟩, 25) := ⟨⟨by decide +kernel, by decide +kernel⟩, List.mem_of_getElem? (i := 493) (by decide +kernel), List.mem_of_getElem? (i := 613) (by decide +kernel), List.mem_of_getElem? (i := 614) (by decide +kernel)⟩
theorem lw_p31 : lw_okq (⟨"AnswerKeeperModel", "isPlain", "(I)Z"⟩, 25) := ⟨⟨by decide +kernel, by decide +kernel⟩, List.mem_of_getElem? (i := 493) (by decide +kernel), List.mem_of_getElem? (i := 617) (by decide +kernel), List.mem_of_getElem? (i := 618) (by decide +kernel)⟩
def lw_privs_2 : List (MethodName × Nat) := [(⟨"AnswerKeeper", "areQuarrelling", "(LAnswerKeeper$Answer;LAnswerKeeper$Answer;)Z"⟩, 8), (⟨"AnswerKeeper", "asksInVain", "()I"⟩, 8), (⟨"AnswerKeeper", "findsSome", "(JLAnswerKeeper$Ask;)Z"⟩, 8), (⟨"AnswerKeeper", "isFound", "(JLAnswerKeeper$Ask;LAnswerKeeper$Answer;)Z"⟩, 8), (⟨"AnswerKeeper", "heapCount", "(I)I"⟩, 8), (⟨"AnswerKeeper", "heapFrom", "(II)I"⟩, 8), (⟨"AnswerKeeper", "isNearOne", "(LAnswerKeeper$Ask;I)Z"⟩, 8), (⟨"AnswerKeeper", "quarrelPart", "(III)I"⟩, 8), (⟨"AnswerKeeper", "foundAt", "(LAnswerKeeper$Ask;I)LAnswerKeeper$Answer;"⟩, 8), (⟨"AnswerKeeper", "betterCount", "(LAnswerKeeper$Ask;LAnswerKeeper$Answer;)I"⟩, 8), (⟨"AnswerKeeper", "heapOf", "(II)I"⟩, 8), (⟨"AnswerKeeper", "helpFor", "(LAnswerKeeper$Ask;)I"⟩, 8), (⟨"AnswerKeeper", "foundCount", "(LAnswerKeeper$Ask;)I"⟩, 8), (⟨"AnswerKeeperModel", "fresh", "(I)I"⟩, 25), (⟨"AnswerKeeperModel", "is", "(I)Z"⟩, 25), (⟨"AnswerKeeperModel", "isPlain", "(I)Z"⟩, 25)]
theorem lw_r2 : ∀ q ∈ lw_privs_2, lw_okq q := List.forall_mem_cons.mpr ⟨lw_p16, List.forall_mem_cons.mpr ⟨lw_p17, List.forall_mem_cons.mpr ⟨lw_p18, List.forall_mem_cons.mpr ⟨lw_p19, List.forall_mem_cons.mpr ⟨lw_p20, List.forall_mem_cons.mpr ⟨lw_p21, List.forall_mem_cons.mpr ⟨lw_p22, List.forall_mem_cons.mpr ⟨lw_p23, List.forall_mem_cons.mpr ⟨lw_p24, List.forall_mem_cons.mpr ⟨lw_p25, List.forall_mem_cons.mpr ⟨lw_p26, List.forall_mem_cons.mpr ⟨lw_p27, List.forall_mem_cons.mpr ⟨lw_p28, List.forall_mem_cons.mpr ⟨lw_p29, List.forall_mem_cons.mpr ⟨lw_p30, List.forall_mem_cons.mpr ⟨lw_p31, fun _ h => absurd h List.not_mem_nil⟩⟩⟩⟩⟩⟩⟩⟩⟩⟩⟩⟩⟩⟩⟩⟩
theorem lw_p32 : lw_okq (⟨"AnswerKeeperModel", "work", "()V"⟩, 25) := ⟨⟨by decide +kernel, by decide +kernel⟩, List.mem_of_getElem? (i := 493) (by decide +kernel), List.mem_of_getElem? (i := 629) (by decide +kernel), List.mem_of_getElem? (i := 630) (by decide +kernel)⟩
theorem lw_p33 : lw_okq (⟨"AnswerKeeperModel", "workPlain", "(I)V"⟩, 25) := ⟨⟨by decide +kernel, by decide +kernel⟩, List.mem_of_getElem? (i := 493) (by decide +kernel), List.mem_of_getElem? (i := 633) (by decide +kernel), List.mem_of_getElem? (i := 634) (by decide +kernel)⟩
theorem lw_p34 : lw_okq (⟨"AnswerKeeperModel", "workJoined", "(I)V"⟩, 25) := ⟨⟨by decide +kernel, by decide +kernel⟩, List.mem_of_getElem? (i := 493) (by decide +kernel), List.mem_of_getElem? (i := 637) (by decide +kernel), List.mem_of_getElem? (i := 638) (by decide +kernel)⟩
theorem lw_p35 : lw_okq (⟨"AnswerKeeperModel", "endOf", "(I)I"⟩, 25) := ⟨⟨by decide +kernel, by decide +kernel⟩, List.mem_of_getElem? (i := 493) (by decide +kernel), List.mem_of_getElem? (i := 641) (by decide +kernel), List.mem_of_getElem? (i := 642) (by decide +kernel)⟩
theorem lw_p36 : lw_okq (⟨"AnswerKeeperModel", "hasPart", "(II)Z"⟩, 25) := ⟨⟨by decide +kernel, by decide +kernel⟩, List.mem_of_getElem? (i := 493) (by decide +kernel), List.mem_of_getElem? (i := 652) (by decide +kernel), List.mem_of_getElem? (i := 653) (by decide +kernel)⟩
theorem lw_p37 : lw_okq (⟨"AnswerKeeperModel", "isWithin", "(II)Z"⟩, 25) := ⟨⟨by decide +kernel, by decide +kernel⟩, List.mem_of_getElem? (i := 493) (by decide +kernel), List.mem_of_getElem? (i := 660) (by decide +kernel), List.mem_of_getElem? (i := 661) (by decide +kernel)⟩
theorem lw_p38 : lw_okq (⟨"AnswerKeeperModel", "partMany", "(I)I"⟩, 25) := ⟨⟨by decide +kernel, by decide +kernel⟩, List.mem_of_getElem? (i := 493) (by decide +kernel), List.mem_of_getElem? (i := 673) (by decide +kernel), List.mem_of_getElem? (i := 674) (by decide +kernel)⟩
theorem lw_p39 : lw_okq (⟨"AnswerKeeperModel", "quarrels", "(II)Z"⟩, 25) := ⟨⟨by decide +kernel, by decide +kernel⟩, List.mem_of_getElem? (i := 493) (by decide +kernel), List.mem_of_getElem? (i := 696) (by decide +kernel), List.mem_of_getElem? (i := 697) (by decide +kernel)⟩
theorem lw_p40 : lw_okq (⟨"AnswerKeeperModel", "far", "(JJ)I"⟩, 25) := ⟨⟨by decide +kernel, by decide +kernel⟩, List.mem_of_getElem? (i := 493) (by decide +kernel), List.mem_of_getElem? (i := 700) (by decide +kernel), List.mem_of_getElem? (i := 701) (by decide +kernel)⟩
theorem lw_p41 : lw_okq (⟨"AnswerKeeperModel", "folded", "(J)J"⟩, 25) := ⟨⟨by decide +kernel, by decide +kernel⟩, List.mem_of_getElem? (i := 493) (by decide +kernel), List.mem_of_getElem? (i := 704) (by decide +kernel), List.mem_of_getElem? (i := 705) (by decide +kernel)⟩
theorem lw_p42 : lw_okq (⟨"AnswerKeeperModel", "isAsk", "(I)Z"⟩, 25) := ⟨⟨by decide +kernel, by decide +kernel⟩, List.mem_of_getElem? (i := 493) (by decide +kernel), List.mem_of_getElem? (i := 722) (by decide +kernel), List.mem_of_getElem? (i := 723) (by decide +kernel)⟩
theorem lw_p43 : lw_okq (⟨"AnswerKeeperModel", "isFit", "(II)Z"⟩, 25) := ⟨⟨by decide +kernel, by decide +kernel⟩, List.mem_of_getElem? (i := 493) (by decide +kernel), List.mem_of_getElem? (i := 726) (by decide +kernel), List.mem_of_getElem? (i := 727) (by decide +kernel)⟩
theorem lw_p44 : lw_okq (⟨"AnswerKeeperModel", "costWith", "(JII)I"⟩, 25) := ⟨⟨by decide +kernel, by decide +kernel⟩, List.mem_of_getElem? (i := 493) (by decide +kernel), List.mem_of_getElem? (i := 730) (by decide +kernel), List.mem_of_getElem? (i := 731) (by decide +kernel)⟩
theorem lw_p45 : lw_okq (⟨"AnswerKeeperModel", "questionOf", "(II)I"⟩, 25) := ⟨⟨by decide +kernel, by decide +kernel⟩, List.mem_of_getElem? (i := 493) (by decide +kernel), List.mem_of_getElem? (i := 735) (by decide +kernel), List.mem_of_getElem? (i := 736) (by decide +kernel)⟩
theorem lw_p46 : lw_okq (⟨"AnswerKeeperModel", "findHeaps", "()V"⟩, 25) := ⟨⟨by decide +kernel, by decide +kernel⟩, List.mem_of_getElem? (i := 493) (by decide +kernel), List.mem_of_getElem? (i := 748) (by decide +kernel), List.mem_of_getElem? (i := 749) (by decide +kernel)⟩
theorem lw_p47 : lw_okq (⟨"AnswerKeeperModel", "findsWith", "(JI)I"⟩, 25) := ⟨⟨by decide +kernel, by decide +kernel⟩, List.mem_of_getElem? (i := 493) (by decide +kernel), List.mem_of_getElem? (i := 752) (by decide +kernel), List.mem_of_getElem? (i := 753) (by decide +kernel)⟩
def lw_privs_3 : List (MethodName × Nat) := [(⟨"AnswerKeeperModel", "work", "()V"⟩, 25), (⟨"AnswerKeeperModel", "workPlain", "(I)V"⟩, 25), (⟨"AnswerKeeperModel", "workJoined", "(I)V"⟩, 25), (⟨"AnswerKeeperModel", "endOf", "(I)I"⟩, 25), (⟨"AnswerKeeperModel", "hasPart", "(II)Z"⟩, 25), (⟨"AnswerKeeperModel", "isWithin", "(II)Z"⟩, 25), (⟨"AnswerKeeperModel", "partMany", "(I)I"⟩, 25), (⟨"AnswerKeeperModel", "quarrels", "(II)Z"⟩, 25), (⟨"AnswerKeeperModel", "far", "(JJ)I"⟩, 25), (⟨"AnswerKeeperModel", "folded", "(J)J"⟩, 25), (⟨"AnswerKeeperModel", "isAsk", "(I)Z"⟩, 25), (⟨"AnswerKeeperModel", "isFit", "(II)Z"⟩, 25), (⟨"AnswerKeeperModel", "costWith", "(JII)I"⟩, 25), (⟨"AnswerKeeperModel", "questionOf", "(II)I"⟩, 25), (⟨"AnswerKeeperModel", "findHeaps", "()V"⟩, 25), (⟨"AnswerKeeperModel", "findsWith", "(JI)I"⟩, 25)]
theorem lw_r3 : ∀ q ∈ lw_privs_3, lw_okq q := List.forall_mem_cons.mpr ⟨lw_p32, List.forall_mem_cons.mpr ⟨lw_p33, List.forall_mem_cons.mpr ⟨lw_p34, List.forall_mem_cons.mpr ⟨lw_p35, List.forall_mem_cons.mpr ⟨lw_p36, List.forall_mem_cons.mpr ⟨lw_p37, List.forall_mem_cons.mpr ⟨lw_p38, List.forall_mem_cons.mpr ⟨lw_p39, List.forall_mem_cons.mpr ⟨lw_p40, List.forall_mem_cons.mpr ⟨lw_p41, List.forall_mem_cons.mpr ⟨lw_p42, List.forall_mem_cons.mpr ⟨lw_p43, List.forall_mem_cons.mpr ⟨lw_p44, List.forall_mem_cons.mpr ⟨lw_p45, List.forall_mem_cons.mpr ⟨lw_p46, List.forall_mem_cons.mpr ⟨lw_p47, fun _ h => absurd h List.not_mem_nil⟩⟩⟩⟩⟩⟩⟩⟩⟩⟩⟩⟩⟩⟩⟩⟩
theorem lw_p48 : lw_okq (⟨"AnswerKeeperModel", "heapOf", "(I)I"⟩, 25) := ⟨⟨by decide +kernel, by decide +kernel⟩, List.mem_of_getElem? (i := 493) (by decide +kernel), List.mem_of_getElem? (i := 756) (by decide +kernel), List.mem_of_getElem? (i := 757) (by decide +kernel)⟩
theorem lw_p49 : lw_okq (⟨"AnswerKeeperModel", "helpOf", "(I)I"⟩, 25) := ⟨⟨by decide +kernel, by decide +kernel⟩, List.mem_of_getElem? (i := 493) (by decide +kernel), List.mem_of_getElem? (i := 760) (by decide +kernel), List.mem_of_getElem? (i := 761) (by decide +kernel)⟩
theorem lw_p50 : lw_okq (⟨"AnswerKeeperModel", "counted", "(II)I"⟩, 25) := ⟨⟨by decide +kernel, by decide +kernel⟩, List.mem_of_getElem? (i := 493) (by decide +kernel), List.mem_of_getElem? (i := 769) (by decide +kernel), List.mem_of_getElem? (i := 770) (by decide +kernel)⟩
def lw_privs_4 : List (MethodName × Nat) := [(⟨"AnswerKeeperModel", "heapOf", "(I)I"⟩, 25), (⟨"AnswerKeeperModel", "helpOf", "(I)I"⟩, 25), (⟨"AnswerKeeperModel", "counted", "(II)I"⟩, 25)]
theorem lw_r4 : ∀ q ∈ lw_privs_4, lw_okq q := List.forall_mem_cons.mpr ⟨lw_p48, List.forall_mem_cons.mpr ⟨lw_p49, List.forall_mem_cons.mpr ⟨lw_p50, fun _ h => absurd h List.not_mem_nil⟩⟩⟩
def lw_privs : List (MethodName × Nat) := lw_privs_1 ++ (lw_privs_2 ++ (lw_privs_3 ++ (lw_privs_4)))
def lw_tbl : List Cond := k2_sels lw_privs ++ tables_1
theorem lw_privs_ok : ∀ q ∈ lw_privs, lw_okq q := by
  show ∀ q ∈ lw_privs_1 ++ (lw_privs_2 ++ (lw_privs_3 ++ (lw_privs_4))), lw_okq q
  exact List.forall_mem_append.mpr ⟨lw_r1, List.forall_mem_append.mpr ⟨lw_r2, List.forall_mem_append.mpr ⟨lw_r3, lw_r4⟩⟩⟩
-- names: printed by the claim's program
def RX0 : String := "AnswerKeeper$Answer"
def TX0 : u_T := fun k => match k with
  | 0 => ("AnswerKeeper$Answer", "number", "I", true)
  | 1 => ("AnswerKeeper$Answer", "kind", "I", true)
  | 2 => ("AnswerKeeper$Answer", "steps", "I", true)
  | 3 => ("AnswerKeeper$Answer", "sets", "[I", true)
  | 4 => ("AnswerKeeper$Answer", "parts", "[I", true)
  | 5 => ("AnswerKeeper$Answer", "words", "J", false)
  | 6 => ("AnswerKeeper$Answer", "things", "I", false)
  | 7 => ("AnswerKeeper$Answer", "sure", "I", false)
  | 8 => ("AnswerKeeper$Answer", "votes", "I", false)
  | 9 => ("AnswerKeeper$Answer", "end", "I", false)
  | 10 => ("AnswerKeeper$Answer", "folded", "J", false)
  | 11 => ("AnswerKeeper$Answer", "doubted", "Z", false)
  | _ => ("AnswerKeeper$Answer", "under", "I", false)
def tyX0 : Nat → FieldType := fun k => match k with
  | 0 => .int
  | 1 => .int
  | 2 => .int
  | 3 => .array .int
  | 4 => .array .int
  | 5 => .long
  | 6 => .int
  | 7 => .int
  | 8 => .int
  | 9 => .int
  | 10 => .long
  | 11 => .boolean
  | _ => .int
abbrev wsX00 : List Cond := u_ws RX0 TX0 13
theorem nmX0 : ∀ a, a < 13 → ∀ b, b < 13 → a ≠ b → (TX0 a).2.1 ≠ (TX0 b).2.1 := by decide +kernel
theorem tyX0_ok : ∀ k, k < 13 → parseFieldDescriptor (TX0 k).2.2.1 = some (tyX0 k) := by decide +kernel
abbrev cX0_init : ByteArray := prog_2_method_1_code
def yX0_init : MethodName := ⟨RX0, "<init>", "(III)V"⟩
abbrev cX0_isMoved : ByteArray := prog_2_method_2_code
def yX0_isMoved : MethodName := ⟨RX0, "isMoved", "()Z"⟩
abbrev cX0_kindNow : ByteArray := prog_2_method_3_code
def yX0_kindNow : MethodName := ⟨RX0, "kindNow", "()I"⟩
abbrev cX0_isDoubted : ByteArray := prog_2_method_4_code
def yX0_isDoubted : MethodName := ⟨RX0, "isDoubted", "()Z"⟩
abbrev cX0_setOf : ByteArray := prog_2_method_5_code
def yX0_setOf : MethodName := ⟨RX0, "setOf", "(I)I"⟩
abbrev cX0_hasValue : ByteArray := prog_2_method_6_code
def yX0_hasValue : MethodName := ⟨RX0, "hasValue", "(II)Z"⟩
abbrev cX0_partAt : ByteArray := prog_2_method_7_code
def yX0_partAt : MethodName := ⟨RX0, "partAt", "(I)I"⟩
abbrev cX0_partCount : ByteArray := prog_2_method_8_code
def yX0_partCount : MethodName := ⟨RX0, "partCount", "()I"⟩
abbrev cX0_putSets : ByteArray := prog_2_method_9_code
def yX0_putSets : MethodName := ⟨RX0, "putSets", "(III)V"⟩
abbrev cX0_putParts : ByteArray := prog_2_method_10_code
def yX0_putParts : MethodName := ⟨RX0, "putParts", "(IIII)V"⟩
abbrev cX0_takeAllOf : ByteArray := prog_2_method_11_code
def yX0_takeAllOf : MethodName := ⟨RX0, "takeAllOf", "(LAnswerKeeper$Answer;)V"⟩
abbrev cX0_clearGathered : ByteArray := prog_2_method_12_code
def yX0_clearGathered : MethodName := ⟨RX0, "clearGathered", "()V"⟩
abbrev cX0_gather : ByteArray := prog_2_method_13_code
def yX0_gather : MethodName := ⟨RX0, "gather", "(LAnswerKeeper$Answer;)V"⟩
def RX1 : String := "AnswerKeeper$Ask"
def TX1 : u_T := fun k => match k with
  | 0 => ("AnswerKeeper$Ask", "words", "J", true)
  | 1 => ("AnswerKeeper$Ask", "values", "[I", true)
  | _ => ("AnswerKeeper$Ask", "folded", "J", false)
def tyX1 : Nat → FieldType := fun k => match k with
  | 0 => .long
  | 1 => .array .int
  | _ => .long
abbrev wsX10 : List Cond := u_ws RX1 TX1 3
theorem nmX1 : ∀ a, a < 3 → ∀ b, b < 3 → a ≠ b → (TX1 a).2.1 ≠ (TX1 b).2.1 := by decide +kernel
theorem tyX1_ok : ∀ k, k < 3 → parseFieldDescriptor (TX1 k).2.2.1 = some (tyX1 k) := by decide +kernel
abbrev cX1_init : ByteArray := prog_3_method_1_code
def yX1_init : MethodName := ⟨RX1, "<init>", "(JIII)V"⟩
abbrev cX1_valueFor : ByteArray := prog_3_method_2_code
def yX1_valueFor : MethodName := ⟨RX1, "valueFor", "(I)I"⟩
def RX2 : String := "AnswerKeeper$Book"
def TX2 : u_T := fun k => match k with
  | _ => ("AnswerKeeper$Book", "folds", "[I", true)
def tyX2 : Nat → FieldType := fun k => match k with
  | _ => .array .int
abbrev wsX20 : List Cond := u_ws RX2 TX2 1
theorem nmX2 : ∀ a, a < 1 → ∀ b, b < 1 → a ≠ b → (TX2 a).2.1 ≠ (TX2 b).2.1 := by decide +kernel
theorem tyX2_ok : ∀ k, k < 1 → parseFieldDescriptor (TX2 k).2.2.1 = some (tyX2 k) := by decide +kernel
abbrev cX2_init : ByteArray := prog_4_method_1_code
def yX2_init : MethodName := ⟨RX2, "<init>", "()V"⟩
abbrev cX2_foldOf : ByteArray := prog_4_method_2_code
def yX2_foldOf : MethodName := ⟨RX2, "foldOf", "(I)I"⟩
abbrev cX2_turn : ByteArray := prog_4_method_3_code
def yX2_turn : MethodName := ⟨RX2, "turn", "(II)V"⟩
abbrev cX2_folded : ByteArray := prog_4_method_4_code
def yX2_folded : MethodName := ⟨RX2, "folded", "(J)J"⟩
def RX3 : String := "AnswerKeeper$Things"
def TX3 : u_T := fun k => match k with
  | 0 => ("AnswerKeeper$Things", "states", "[I", true)
  | 1 => ("AnswerKeeper$Things", "changedAt", "[I", true)
  | _ => ("AnswerKeeper$Things", "clock", "I", false)
def tyX3 : Nat → FieldType := fun k => match k with
  | 0 => .array .int
  | 1 => .array .int
  | _ => .int
abbrev wsX30 : List Cond := u_ws RX3 TX3 3
theorem nmX3 : ∀ a, a < 3 → ∀ b, b < 3 → a ≠ b → (TX3 a).2.1 ≠ (TX3 b).2.1 := by decide +kernel
theorem tyX3_ok : ∀ k, k < 3 → parseFieldDescriptor (TX3 k).2.2.1 = some (tyX3 k) := by decide +kernel
abbrev cX3_init : ByteArray := prog_5_method_1_code
def yX3_init : MethodName := ⟨RX3, "<init>", "()V"⟩
abbrev cX3_now : ByteArray := prog_5_method_2_code
def yX3_now : MethodName := ⟨RX3, "now", "()I"⟩
abbrev cX3_change : ByteArray := prog_5_method_3_code
def yX3_change : MethodName := ⟨RX3, "change", "(I)I"⟩
abbrev cX3_isChangedSince : ByteArray := prog_5_method_4_code
def yX3_isChangedSince : MethodName := ⟨RX3, "isChangedSince", "(II)Z"⟩
def RX4 : String := "AnswerKeeper"
def TX4 : u_T := fun k => match k with
  | 0 => ("AnswerKeeper", "book", "LAnswerKeeper$Book;", true)
  | 1 => ("AnswerKeeper", "things", "LAnswerKeeper$Things;", true)
  | 2 => ("AnswerKeeper", "answers", "[LAnswerKeeper$Answer;", true)
  | 3 => ("AnswerKeeper", "asks", "[LAnswerKeeper$Ask;", true)
  | 4 => ("AnswerKeeper", "answerCount", "I", false)
  | 5 => ("AnswerKeeper", "askCount", "I", false)
  | 6 => ("AnswerKeeper", "near", "I", false)
  | _ => ("AnswerKeeper", "limit", "I", false)
def tyX4 : Nat → FieldType := fun k => match k with
  | 0 => .object "AnswerKeeper$Book"
  | 1 => .object "AnswerKeeper$Things"
  | 2 => .array (.object "AnswerKeeper$Answer")
  | 3 => .array (.object "AnswerKeeper$Ask")
  | 4 => .int
  | 5 => .int
  | 6 => .int
  | _ => .int
abbrev wsX40 : List Cond := u_ws RX4 TX4 8
theorem nmX4 : ∀ a, a < 8 → ∀ b, b < 8 → a ≠ b → (TX4 a).2.1 ≠ (TX4 b).2.1 := by decide +kernel
theorem tyX4_ok : ∀ k, k < 8 → parseFieldDescriptor (TX4 k).2.2.1 = some (tyX4 k) := by decide +kernel
abbrev cX4_init : ByteArray := prog_1_method_1_code
def yX4_init : MethodName := ⟨RX4, "<init>", "()V"⟩
abbrev cX4_fold : ByteArray := prog_1_method_2_code
def yX4_fold : MethodName := ⟨RX4, "fold", "(II)I"⟩
abbrev cX4_changed : ByteArray := prog_1_method_3_code
def yX4_changed : MethodName := ⟨RX4, "changed", "(I)I"⟩
abbrev cX4_rule : ByteArray := prog_1_method_4_code
def yX4_rule : MethodName := ⟨RX4, "rule", "(II)I"⟩
abbrev cX4_answer : ByteArray := prog_1_method_5_code
def yX4_answer : MethodName := ⟨RX4, "answer", "(JIIII)I"⟩
abbrev cX4_join : ByteArray := prog_1_method_6_code
def yX4_join : MethodName := ⟨RX4, "join", "(IIII)I"⟩
abbrev cX4_bind : ByteArray := prog_1_method_7_code
def yX4_bind : MethodName := ⟨RX4, "bind", "(II)I"⟩
abbrev cX4_confirm : ByteArray := prog_1_method_8_code
def yX4_confirm : MethodName := ⟨RX4, "confirm", "(I)I"⟩
abbrev cX4_move : ByteArray := prog_1_method_9_code
def yX4_move : MethodName := ⟨RX4, "move", "(II)I"⟩
abbrev cX4_melt : ByteArray := prog_1_method_10_code
def yX4_melt : MethodName := ⟨RX4, "melt", "(II)I"⟩
abbrev cX4_vote : ByteArray := prog_1_method_11_code
def yX4_vote : MethodName := ⟨RX4, "vote", "(IZ)I"⟩
abbrev cX4_told : ByteArray := prog_1_method_12_code
def yX4_told : MethodName := ⟨RX4, "told", "(II)I"⟩
abbrev cX4_words : ByteArray := prog_1_method_13_code
def yX4_words : MethodName := ⟨RX4, "words", "(I)J"⟩
abbrev cX4_holds : ByteArray := prog_1_method_14_code
def yX4_holds : MethodName := ⟨RX4, "holds", "(IIII)I"⟩
abbrev cX4_count : ByteArray := prog_1_method_15_code
def yX4_count : MethodName := ⟨RX4, "count", "(I)I"⟩
abbrev cX4_quarrel : ByteArray := prog_1_method_16_code
def yX4_quarrel : MethodName := ⟨RX4, "quarrel", "(II)I"⟩
abbrev cX4_ask : ByteArray := prog_1_method_17_code
def yX4_ask : MethodName := ⟨RX4, "ask", "(JIII)I"⟩
abbrev cX4_found : ByteArray := prog_1_method_18_code
def yX4_found : MethodName := ⟨RX4, "found", "(III)I"⟩
abbrev cX4_cost : ByteArray := prog_1_method_19_code
def yX4_cost : MethodName := ⟨RX4, "cost", "(II)I"⟩
abbrev cX4_asked : ByteArray := prog_1_method_20_code
def yX4_asked : MethodName := ⟨RX4, "asked", "(II)I"⟩
abbrev cX4_answerAt : ByteArray := prog_1_method_21_code
def yX4_answerAt : MethodName := ⟨RX4, "answerAt", "(I)LAnswerKeeper$Answer;"⟩
abbrev cX4_askAt : ByteArray := prog_1_method_22_code
def yX4_askAt : MethodName := ⟨RX4, "askAt", "(I)LAnswerKeeper$Ask;"⟩
abbrev cX4_isAnswer : ByteArray := prog_1_method_23_code
def yX4_isAnswer : MethodName := ⟨RX4, "isAnswer", "(I)Z"⟩
abbrev cX4_within : ByteArray := prog_1_method_24_code
def yX4_within : MethodName := ⟨RX4, "within", "(III)Z"⟩
abbrev cX4_isWord : ByteArray := prog_1_method_25_code
def yX4_isWord : MethodName := ⟨RX4, "isWord", "(I)Z"⟩
abbrev cX4_isSetOfWords : ByteArray := prog_1_method_26_code
def yX4_isSetOfWords : MethodName := ⟨RX4, "isSetOfWords", "(J)Z"⟩
abbrev cX4_allValues : ByteArray := prog_1_method_27_code
def yX4_allValues : MethodName := ⟨RX4, "allValues", "(I)I"⟩
abbrev cX4_isSetOfValues : ByteArray := prog_1_method_28_code
def yX4_isSetOfValues : MethodName := ⟨RX4, "isSetOfValues", "(II)Z"⟩
abbrev cX4_isValue : ByteArray := prog_1_method_29_code
def yX4_isValue : MethodName := ⟨RX4, "isValue", "(II)Z"⟩
abbrev cX4_isValueOrNone : ByteArray := prog_1_method_30_code
def yX4_isValueOrNone : MethodName := ⟨RX4, "isValueOrNone", "(II)Z"⟩
abbrev cX4_bit : ByteArray := prog_1_method_31_code
def yX4_bit : MethodName := ⟨RX4, "bit", "(I)I"⟩
abbrev cX4_least : ByteArray := prog_1_method_32_code
def yX4_least : MethodName := ⟨RX4, "least", "(I)I"⟩
abbrev cX4_far : ByteArray := prog_1_method_33_code
def yX4_far : MethodName := ⟨RX4, "far", "(JJ)I"⟩
abbrev cX4_keep : ByteArray := prog_1_method_34_code
def yX4_keep : MethodName := ⟨RX4, "keep", "(LAnswerKeeper$Answer;)V"⟩
abbrev cX4_endOf : ByteArray := prog_1_method_35_code
def yX4_endOf : MethodName := ⟨RX4, "endOf", "(I)LAnswerKeeper$Answer;"⟩
abbrev cX4_leadOn : ByteArray := prog_1_method_36_code
def yX4_leadOn : MethodName := ⟨RX4, "leadOn", "(II)V"⟩
abbrev cX4_partNow : ByteArray := prog_1_method_37_code
def yX4_partNow : MethodName := ⟨RX4, "partNow", "(LAnswerKeeper$Answer;I)I"⟩
abbrev cX4_areAllPlain : ByteArray := prog_1_method_38_code
def yX4_areAllPlain : MethodName := ⟨RX4, "areAllPlain", "(I)Z"⟩
abbrev cX4_mayMelt : ByteArray := prog_1_method_39_code
def yX4_mayMelt : MethodName := ⟨RX4, "mayMelt", "(LAnswerKeeper$Answer;LAnswerKeeper$Answer;)Z"⟩
abbrev cX4_likeSets : ByteArray := prog_1_method_40_code
def yX4_likeSets : MethodName := ⟨RX4, "likeSets", "(LAnswerKeeper$Answer;LAnswerKeeper$Answer;)I"⟩
abbrev cX4_isInside : ByteArray := prog_1_method_41_code
def yX4_isInside : MethodName := ⟨RX4, "isInside", "(LAnswerKeeper$Answer;LAnswerKeeper$Answer;)Z"⟩
abbrev cX4_settle : ByteArray := prog_1_method_42_code
def yX4_settle : MethodName := ⟨RX4, "settle", "()V"⟩
abbrev cX4_settlePlain : ByteArray := prog_1_method_43_code
def yX4_settlePlain : MethodName := ⟨RX4, "settlePlain", "(LAnswerKeeper$Answer;)V"⟩
abbrev cX4_settleUnder : ByteArray := prog_1_method_44_code
def yX4_settleUnder : MethodName := ⟨RX4, "settleUnder", "()V"⟩
abbrev cX4_widenUnder : ByteArray := prog_1_method_45_code
def yX4_widenUnder : MethodName := ⟨RX4, "widenUnder", "(LAnswerKeeper$Answer;)V"⟩
abbrev cX4_settleJoined : ByteArray := prog_1_method_46_code
def yX4_settleJoined : MethodName := ⟨RX4, "settleJoined", "(LAnswerKeeper$Answer;)V"⟩
abbrev cX4_kindCount : ByteArray := prog_1_method_47_code
def yX4_kindCount : MethodName := ⟨RX4, "kindCount", "(I)I"⟩
abbrev cX4_doubtedCount : ByteArray := prog_1_method_48_code
def yX4_doubtedCount : MethodName := ⟨RX4, "doubtedCount", "()I"⟩
abbrev cX4_quarrelCount : ByteArray := prog_1_method_49_code
def yX4_quarrelCount : MethodName := ⟨RX4, "quarrelCount", "()I"⟩
abbrev cX4_areQuarrelling : ByteArray := prog_1_method_50_code
def yX4_areQuarrelling : MethodName := ⟨RX4, "areQuarrelling", "(LAnswerKeeper$Answer;LAnswerKeeper$Answer;)Z"⟩
abbrev cX4_quarrelPart : ByteArray := prog_1_method_51_code
def yX4_quarrelPart : MethodName := ⟨RX4, "quarrelPart", "(III)I"⟩
abbrev cX4_isFit : ByteArray := prog_1_method_52_code
def yX4_isFit : MethodName := ⟨RX4, "isFit", "(LAnswerKeeper$Ask;LAnswerKeeper$Answer;)Z"⟩
abbrev cX4_questionOf : ByteArray := prog_1_method_53_code
def yX4_questionOf : MethodName := ⟨RX4, "questionOf", "(LAnswerKeeper$Ask;LAnswerKeeper$Answer;)I"⟩
abbrev cX4_costOf : ByteArray := prog_1_method_54_code
def yX4_costOf : MethodName := ⟨RX4, "costOf", "(JLAnswerKeeper$Ask;LAnswerKeeper$Answer;)I"⟩
abbrev cX4_isFound : ByteArray := prog_1_method_55_code
def yX4_isFound : MethodName := ⟨RX4, "isFound", "(JLAnswerKeeper$Ask;LAnswerKeeper$Answer;)Z"⟩
abbrev cX4_findsSome : ByteArray := prog_1_method_56_code
def yX4_findsSome : MethodName := ⟨RX4, "findsSome", "(JLAnswerKeeper$Ask;)Z"⟩
abbrev cX4_foundCount : ByteArray := prog_1_method_57_code
def yX4_foundCount : MethodName := ⟨RX4, "foundCount", "(LAnswerKeeper$Ask;)I"⟩
abbrev cX4_foundAt : ByteArray := prog_1_method_58_code
def yX4_foundAt : MethodName := ⟨RX4, "foundAt", "(LAnswerKeeper$Ask;I)LAnswerKeeper$Answer;"⟩
abbrev cX4_betterCount : ByteArray := prog_1_method_59_code
def yX4_betterCount : MethodName := ⟨RX4, "betterCount", "(LAnswerKeeper$Ask;LAnswerKeeper$Answer;)I"⟩
abbrev cX4_helpFor : ByteArray := prog_1_method_60_code
def yX4_helpFor : MethodName := ⟨RX4, "helpFor", "(LAnswerKeeper$Ask;)I"⟩
abbrev cX4_asksInVain : ByteArray := prog_1_method_61_code
def yX4_asksInVain : MethodName := ⟨RX4, "asksInVain", "()I"⟩
abbrev cX4_heapCount : ByteArray := prog_1_method_62_code
def yX4_heapCount : MethodName := ⟨RX4, "heapCount", "(I)I"⟩
abbrev cX4_heapOf : ByteArray := prog_1_method_63_code
def yX4_heapOf : MethodName := ⟨RX4, "heapOf", "(II)I"⟩
abbrev cX4_heapFrom : ByteArray := prog_1_method_64_code
def yX4_heapFrom : MethodName := ⟨RX4, "heapFrom", "(II)I"⟩
abbrev cX4_isNearOne : ByteArray := prog_1_method_65_code
def yX4_isNearOne : MethodName := ⟨RX4, "isNearOne", "(LAnswerKeeper$Ask;I)Z"⟩
def RX5 : String := "AnswerKeeperModel"
def TX5 : u_T := fun k => match k with
  | 0 => ("AnswerKeeperModel", "book", "[I", true)
  | 1 => ("AnswerKeeperModel", "states", "[I", true)
  | 2 => ("AnswerKeeperModel", "changedAt", "[I", true)
  | 3 => ("AnswerKeeperModel", "time", "I", false)
  | 4 => ("AnswerKeeperModel", "near", "I", false)
  | 5 => ("AnswerKeeperModel", "limit", "I", false)
  | 6 => ("AnswerKeeperModel", "answers", "I", false)
  | 7 => ("AnswerKeeperModel", "kinds", "[I", true)
  | 8 => ("AnswerKeeperModel", "leads", "[I", true)
  | 9 => ("AnswerKeeperModel", "words", "[J", true)
  | 10 => ("AnswerKeeperModel", "steps", "[I", true)
  | 11 => ("AnswerKeeperModel", "sets", "[I", true)
  | 12 => ("AnswerKeeperModel", "bound", "[I", true)
  | 13 => ("AnswerKeeperModel", "sure", "[I", true)
  | 14 => ("AnswerKeeperModel", "votes", "[I", true)
  | 15 => ("AnswerKeeperModel", "parts", "[I", true)
  | 16 => ("AnswerKeeperModel", "asks", "I", false)
  | 17 => ("AnswerKeeperModel", "askWords", "[J", true)
  | 18 => ("AnswerKeeperModel", "askValues", "[I", true)
  | 19 => ("AnswerKeeperModel", "known", "[Z", true)
  | 20 => ("AnswerKeeperModel", "allWords", "[J", true)
  | 21 => ("AnswerKeeperModel", "allSets", "[I", true)
  | 22 => ("AnswerKeeperModel", "allThings", "[I", true)
  | 23 => ("AnswerKeeperModel", "doubted", "[Z", true)
  | _ => ("AnswerKeeperModel", "heaps", "[I", true)
def tyX5 : Nat → FieldType := fun k => match k with
  | 0 => .array .int
  | 1 => .array .int
  | 2 => .array .int
  | 3 => .int
  | 4 => .int
  | 5 => .int
  | 6 => .int
  | 7 => .array .int
  | 8 => .array .int
  | 9 => .array .long
  | 10 => .array .int
  | 11 => .array .int
  | 12 => .array .int
  | 13 => .array .int
  | 14 => .array .int
  | 15 => .array .int
  | 16 => .int
  | 17 => .array .long
  | 18 => .array .int
  | 19 => .array .boolean
  | 20 => .array .long
  | 21 => .array .int
  | 22 => .array .int
  | 23 => .array .boolean
  | _ => .array .int
abbrev wsX50 : List Cond := u_ws RX5 TX5 25
theorem nmX5 : ∀ a, a < 25 → ∀ b, b < 25 → a ≠ b → (TX5 a).2.1 ≠ (TX5 b).2.1 := by decide +kernel
theorem tyX5_ok : ∀ k, k < 25 → parseFieldDescriptor (TX5 k).2.2.1 = some (tyX5 k) := by decide +kernel
abbrev cX5_init : ByteArray := prog_7_method_1_code
def yX5_init : MethodName := ⟨RX5, "<init>", "()V"⟩
abbrev cX5_in : ByteArray := prog_7_method_3_code
def yX5_in : MethodName := ⟨RX5, "in", "(JJJ)Z"⟩
abbrev cX5_is : ByteArray := prog_7_method_4_code
def yX5_is : MethodName := ⟨RX5, "is", "(I)Z"⟩
abbrev cX5_isPlain : ByteArray := prog_7_method_5_code
def yX5_isPlain : MethodName := ⟨RX5, "isPlain", "(I)Z"⟩
abbrev cX5_endOf : ByteArray := prog_7_method_6_code
def yX5_endOf : MethodName := ⟨RX5, "endOf", "(I)I"⟩
abbrev cX5_allOf : ByteArray := prog_7_method_7_code
def yX5_allOf : MethodName := ⟨RX5, "allOf", "(I)I"⟩
abbrev cX5_fold : ByteArray := prog_7_method_8_code
def yX5_fold : MethodName := ⟨RX5, "fold", "(II)I"⟩
abbrev cX5_folded : ByteArray := prog_7_method_9_code
def yX5_folded : MethodName := ⟨RX5, "folded", "(J)J"⟩
abbrev cX5_many : ByteArray := prog_7_method_10_code
def yX5_many : MethodName := ⟨RX5, "many", "(J)I"⟩
abbrev cX5_changed : ByteArray := prog_7_method_11_code
def yX5_changed : MethodName := ⟨RX5, "changed", "(I)I"⟩
abbrev cX5_rule : ByteArray := prog_7_method_12_code
def yX5_rule : MethodName := ⟨RX5, "rule", "(II)I"⟩
abbrev cX5_fresh : ByteArray := prog_7_method_13_code
def yX5_fresh : MethodName := ⟨RX5, "fresh", "(I)I"⟩
abbrev cX5_answer : ByteArray := prog_7_method_14_code
def yX5_answer : MethodName := ⟨RX5, "answer", "(JIIII)I"⟩
abbrev cX5_join : ByteArray := prog_7_method_15_code
def yX5_join : MethodName := ⟨RX5, "join", "(IIII)I"⟩
abbrev cX5_bind : ByteArray := prog_7_method_16_code
def yX5_bind : MethodName := ⟨RX5, "bind", "(II)I"⟩
abbrev cX5_confirm : ByteArray := prog_7_method_17_code
def yX5_confirm : MethodName := ⟨RX5, "confirm", "(I)I"⟩
abbrev cX5_workPlain : ByteArray := prog_7_method_18_code
def yX5_workPlain : MethodName := ⟨RX5, "workPlain", "(I)V"⟩
abbrev cX5_workJoined : ByteArray := prog_7_method_19_code
def yX5_workJoined : MethodName := ⟨RX5, "workJoined", "(I)V"⟩
abbrev cX5_work : ByteArray := prog_7_method_20_code
def yX5_work : MethodName := ⟨RX5, "work", "()V"⟩
abbrev cX5_hasPart : ByteArray := prog_7_method_21_code
def yX5_hasPart : MethodName := ⟨RX5, "hasPart", "(II)Z"⟩
abbrev cX5_move : ByteArray := prog_7_method_22_code
def yX5_move : MethodName := ⟨RX5, "move", "(II)I"⟩
abbrev cX5_isWithin : ByteArray := prog_7_method_23_code
def yX5_isWithin : MethodName := ⟨RX5, "isWithin", "(II)Z"⟩
abbrev cX5_melt : ByteArray := prog_7_method_24_code
def yX5_melt : MethodName := ⟨RX5, "melt", "(II)I"⟩
abbrev cX5_vote : ByteArray := prog_7_method_25_code
def yX5_vote : MethodName := ⟨RX5, "vote", "(IZ)I"⟩
abbrev cX5_partMany : ByteArray := prog_7_method_26_code
def yX5_partMany : MethodName := ⟨RX5, "partMany", "(I)I"⟩
abbrev cX5_told : ByteArray := prog_7_method_27_code
def yX5_told : MethodName := ⟨RX5, "told", "(II)I"⟩
abbrev cX5_words : ByteArray := prog_7_method_28_code
def yX5_words : MethodName := ⟨RX5, "words", "(I)J"⟩
abbrev cX5_isValue : ByteArray := prog_7_method_29_code
def yX5_isValue : MethodName := ⟨RX5, "isValue", "(II)Z"⟩
abbrev cX5_holds : ByteArray := prog_7_method_30_code
def yX5_holds : MethodName := ⟨RX5, "holds", "(IIII)I"⟩
abbrev cX5_far : ByteArray := prog_7_method_31_code
def yX5_far : MethodName := ⟨RX5, "far", "(JJ)I"⟩
abbrev cX5_quarrels : ByteArray := prog_7_method_32_code
def yX5_quarrels : MethodName := ⟨RX5, "quarrels", "(II)Z"⟩
abbrev cX5_leastOf : ByteArray := prog_7_method_33_code
def yX5_leastOf : MethodName := ⟨RX5, "leastOf", "(I)I"⟩
abbrev cX5_quarrel : ByteArray := prog_7_method_34_code
def yX5_quarrel : MethodName := ⟨RX5, "quarrel", "(II)I"⟩
abbrev cX5_ask : ByteArray := prog_7_method_35_code
def yX5_ask : MethodName := ⟨RX5, "ask", "(JIII)I"⟩
abbrev cX5_isAsk : ByteArray := prog_7_method_36_code
def yX5_isAsk : MethodName := ⟨RX5, "isAsk", "(I)Z"⟩
abbrev cX5_isFit : ByteArray := prog_7_method_37_code
def yX5_isFit : MethodName := ⟨RX5, "isFit", "(II)Z"⟩
abbrev cX5_questionOf : ByteArray := prog_7_method_38_code
def yX5_questionOf : MethodName := ⟨RX5, "questionOf", "(II)I"⟩
abbrev cX5_costWith : ByteArray := prog_7_method_39_code
def yX5_costWith : MethodName := ⟨RX5, "costWith", "(JII)I"⟩
abbrev cX5_findsWith : ByteArray := prog_7_method_40_code
def yX5_findsWith : MethodName := ⟨RX5, "findsWith", "(JI)I"⟩
abbrev cX5_cost : ByteArray := prog_7_method_41_code
def yX5_cost : MethodName := ⟨RX5, "cost", "(II)I"⟩
abbrev cX5_found : ByteArray := prog_7_method_42_code
def yX5_found : MethodName := ⟨RX5, "found", "(III)I"⟩
abbrev cX5_findHeaps : ByteArray := prog_7_method_43_code
def yX5_findHeaps : MethodName := ⟨RX5, "findHeaps", "()V"⟩
abbrev cX5_heapOf : ByteArray := prog_7_method_44_code
def yX5_heapOf : MethodName := ⟨RX5, "heapOf", "(I)I"⟩
abbrev cX5_helpOf : ByteArray := prog_7_method_45_code
def yX5_helpOf : MethodName := ⟨RX5, "helpOf", "(I)I"⟩
abbrev cX5_asked : ByteArray := prog_7_method_46_code
def yX5_asked : MethodName := ⟨RX5, "asked", "(II)I"⟩
abbrev cX5_counted : ByteArray := prog_7_method_47_code
def yX5_counted : MethodName := ⟨RX5, "counted", "(II)I"⟩
abbrev cX5_count : ByteArray := prog_7_method_48_code
def yX5_count : MethodName := ⟨RX5, "count", "(I)I"⟩
def RJ6 : String := "java/lang/Integer"
def TJ6 : u_T := fun k => match k with
  | _ => ("", "", "", false)
abbrev cJ6_bitCount_0f7a4 : ByteArray := prog_8_method_49_code
def yJ6_bitCount_0f7a4 : MethodName := ⟨RJ6, "bitCount", "(I)I"⟩
def RJ13 : String := "java/lang/Long"
def TJ13 : u_T := fun k => match k with
  | _ => ("", "", "", false)
abbrev cJ13_bitCount_95d88 : ByteArray := prog_9_method_50_code
def yJ13_bitCount_95d88 : MethodName := ⟨RJ13, "bitCount", "(J)I"⟩
def RJ9 : String := "java/lang/Math"
def TJ9 : u_T := fun k => match k with
  | _ => ("", "", "", false)
abbrev cJ9_max_7cf53 : ByteArray := prog_10_method_65_code
def yJ9_max_7cf53 : MethodName := ⟨RJ9, "max", "(II)I"⟩
abbrev cJ9_min_7cf53 : ByteArray := prog_10_method_69_code
def yJ9_min_7cf53 : MethodName := ⟨RJ9, "min", "(II)I"⟩
def RL : String := "AnswerKeeperLaw"
abbrev cL_law : ByteArray := code
def yL_law : MethodName := ⟨RL, "law", "([I)Z"⟩
abbrev vwCl : List vw_C := [(RX0, TX0, 13), (RX1, TX1, 3), (RX2, TX2, 1), (RX3, TX3, 3), (RX4, TX4, 8), (RX5, TX5, 25)]
end
section
theorem dX0_init_0 : decode cX0_init 0 = .ok (.aload_n 0, 1) := by decide +kernel
theorem dX0_init_1 : decode cX0_init 1 = .ok (.invokespecial 3, 3) := by decide +kernel
theorem dX0_init_4 : decode cX0_init 4 = .ok (.aload_n 0, 1) := by decide +kernel
theorem dX0_init_5 : decode cX0_init 5 = .ok (.iconst 3, 1) := by decide +kernel
theorem dX0_init_6 : decode cX0_init 6 = .ok (.newarray .int, 2) := by decide +kernel
theorem dX0_init_8 : decode cX0_init 8 = .ok (.putfield 9, 3) := by decide +kernel
theorem dX0_init_11 : decode cX0_init 11 = .ok (.aload_n 0, 1) := by decide +kernel
theorem dX0_init_12 : decode cX0_init 12 = .ok (.iconst 4, 1) := by decide +kernel
theorem dX0_init_13 : decode cX0_init 13 = .ok (.newarray .int, 2) := by decide +kernel
theorem dX0_init_15 : decode cX0_init 15 = .ok (.putfield 15, 3) := by decide +kernel
theorem dX0_init_18 : decode cX0_init 18 = .ok (.aload_n 0, 1) := by decide +kernel
theorem dX0_init_19 : decode cX0_init 19 = .ok (.lconst 0, 1) := by decide +kernel
theorem dX0_init_20 : decode cX0_init 20 = .ok (.putfield 18, 3) := by decide +kernel
theorem dX0_init_23 : decode cX0_init 23 = .ok (.aload_n 0, 1) := by decide +kernel
theorem dX0_init_24 : decode cX0_init 24 = .ok (.iconst 0, 1) := by decide +kernel
theorem dX0_init_25 : decode cX0_init 25 = .ok (.putfield 22, 3) := by decide +kernel
theorem dX0_init_28 : decode cX0_init 28 = .ok (.aload_n 0, 1) := by decide +kernel
theorem dX0_init_29 : decode cX0_init 29 = .ok (.iconst 0, 1) := by decide +kernel
theorem dX0_init_30 : decode cX0_init 30 = .ok (.putfield 26, 3) := by decide +kernel
theorem dX0_init_33 : decode cX0_init 33 = .ok (.aload_n 0, 1) := by decide +kernel
theorem dX0_init_34 : decode cX0_init 34 = .ok (.iconst 0, 1) := by decide +kernel
theorem dX0_init_35 : decode cX0_init 35 = .ok (.putfield 29, 3) := by decide +kernel
theorem dX0_init_38 : decode cX0_init 38 = .ok (.aload_n 0, 1) := by decide +kernel
theorem dX0_init_39 : decode cX0_init 39 = .ok (.lconst 0, 1) := by decide +kernel
theorem dX0_init_40 : decode cX0_init 40 = .ok (.putfield 32, 3) := by decide +kernel
theorem dX0_init_43 : decode cX0_init 43 = .ok (.aload_n 0, 1) := by decide +kernel
theorem dX0_init_44 : decode cX0_init 44 = .ok (.iconst 0, 1) := by decide +kernel
theorem dX0_init_45 : decode cX0_init 45 = .ok (.putfield 35, 3) := by decide +kernel
theorem dX0_init_48 : decode cX0_init 48 = .ok (.aload_n 0, 1) := by decide +kernel
theorem dX0_init_49 : decode cX0_init 49 = .ok (.iconst 0, 1) := by decide +kernel
theorem dX0_init_50 : decode cX0_init 50 = .ok (.putfield 39, 3) := by decide +kernel
theorem dX0_init_53 : decode cX0_init 53 = .ok (.aload_n 0, 1) := by decide +kernel
theorem dX0_init_54 : decode cX0_init 54 = .ok (.iload_n 1, 1) := by decide +kernel
theorem dX0_init_55 : decode cX0_init 55 = .ok (.putfield 42, 3) := by decide +kernel
theorem dX0_init_58 : decode cX0_init 58 = .ok (.aload_n 0, 1) := by decide +kernel
theorem dX0_init_59 : decode cX0_init 59 = .ok (.iload_n 2, 1) := by decide +kernel
theorem dX0_init_60 : decode cX0_init 60 = .ok (.putfield 45, 3) := by decide +kernel
theorem dX0_init_63 : decode cX0_init 63 = .ok (.aload_n 0, 1) := by decide +kernel
theorem dX0_init_64 : decode cX0_init 64 = .ok (.iload_n 3, 1) := by decide +kernel
theorem dX0_init_65 : decode cX0_init 65 = .ok (.putfield 48, 3) := by decide +kernel
theorem dX0_init_68 : decode cX0_init 68 = .ok (.aload_n 0, 1) := by decide +kernel
theorem dX0_init_69 : decode cX0_init 69 = .ok (.iload_n 1, 1) := by decide +kernel
theorem dX0_init_70 : decode cX0_init 70 = .ok (.putfield 51, 3) := by decide +kernel
theorem dX0_init_73 : decode cX0_init 73 = .ok (.iconst 0, 1) := by decide +kernel
theorem dX0_init_74 : decode cX0_init 74 = .ok (.istore 4, 2) := by decide +kernel
theorem dX0_init_76 : decode cX0_init 76 = .ok (.iload 4, 2) := by decide +kernel
theorem dX0_init_78 : decode cX0_init 78 = .ok (.aload_n 0, 1) := by decide +kernel
theorem dX0_init_79 : decode cX0_init 79 = .ok (.getfield 15, 3) := by decide +kernel
theorem dX0_init_82 : decode cX0_init 82 = .ok (.arraylength, 1) := by decide +kernel
theorem dX0_init_83 : decode cX0_init 83 = .ok (.if_icmp .ge 17, 3) := by decide +kernel
theorem dX0_init_86 : decode cX0_init 86 = .ok (.aload_n 0, 1) := by decide +kernel
theorem dX0_init_87 : decode cX0_init 87 = .ok (.getfield 15, 3) := by decide +kernel
theorem dX0_init_90 : decode cX0_init 90 = .ok (.iload 4, 2) := by decide +kernel
theorem dX0_init_92 : decode cX0_init 92 = .ok (.iconst (-1), 1) := by decide +kernel
theorem dX0_init_93 : decode cX0_init 93 = .ok (.iastore, 1) := by decide +kernel
theorem dX0_init_94 : decode cX0_init 94 = .ok (.iinc 4 1, 3) := by decide +kernel
theorem dX0_init_97 : decode cX0_init 97 = .ok (.goto (-21), 3) := by decide +kernel
theorem dX0_init_100 : decode cX0_init 100 = .ok (.return_, 1) := by decide +kernel
theorem dX0_isMoved_0 : decode cX0_isMoved 0 = .ok (.aload_n 0, 1) := by decide +kernel
theorem dX0_isMoved_1 : decode cX0_isMoved 1 = .ok (.getfield 51, 3) := by decide +kernel
theorem dX0_isMoved_4 : decode cX0_isMoved 4 = .ok (.aload_n 0, 1) := by decide +kernel
theorem dX0_isMoved_5 : decode cX0_isMoved 5 = .ok (.getfield 42, 3) := by decide +kernel
theorem dX0_isMoved_8 : decode cX0_isMoved 8 = .ok (.if_icmp .eq 7, 3) := by decide +kernel
theorem dX0_isMoved_11 : decode cX0_isMoved 11 = .ok (.iconst 1, 1) := by decide +kernel
theorem dX0_isMoved_12 : decode cX0_isMoved 12 = .ok (.goto 4, 3) := by decide +kernel
theorem dX0_isMoved_15 : decode cX0_isMoved 15 = .ok (.iconst 0, 1) := by decide +kernel
theorem dX0_isMoved_16 : decode cX0_isMoved 16 = .ok (.ireturn, 1) := by decide +kernel
theorem dX0_kindNow_0 : decode cX0_kindNow 0 = .ok (.aload_n 0, 1) := by decide +kernel
theorem dX0_kindNow_1 : decode cX0_kindNow 1 = .ok (.invokevirtual 54, 3) := by decide +kernel
theorem dX0_kindNow_4 : decode cX0_kindNow 4 = .ok (.ifCond .eq 7, 3) := by decide +kernel
theorem dX0_kindNow_7 : decode cX0_kindNow 7 = .ok (.iconst 2, 1) := by decide +kernel
theorem dX0_kindNow_8 : decode cX0_kindNow 8 = .ok (.goto 7, 3) := by decide +kernel
theorem dX0_kindNow_11 : decode cX0_kindNow 11 = .ok (.aload_n 0, 1) := by decide +kernel
theorem dX0_kindNow_12 : decode cX0_kindNow 12 = .ok (.getfield 45, 3) := by decide +kernel
theorem dX0_kindNow_15 : decode cX0_kindNow 15 = .ok (.ireturn, 1) := by decide +kernel
theorem dX0_isDoubted_0 : decode cX0_isDoubted 0 = .ok (.aload_n 0, 1) := by decide +kernel
theorem dX0_isDoubted_1 : decode cX0_isDoubted 1 = .ok (.getfield 35, 3) := by decide +kernel
theorem dX0_isDoubted_4 : decode cX0_isDoubted 4 = .ok (.ifCond .eq 14, 3) := by decide +kernel
theorem dX0_isDoubted_7 : decode cX0_isDoubted 7 = .ok (.aload_n 0, 1) := by decide +kernel
theorem dX0_isDoubted_8 : decode cX0_isDoubted 8 = .ok (.invokevirtual 54, 3) := by decide +kernel
theorem dX0_isDoubted_11 : decode cX0_isDoubted 11 = .ok (.ifCond .ne 7, 3) := by decide +kernel
theorem dX0_isDoubted_14 : decode cX0_isDoubted 14 = .ok (.iconst 1, 1) := by decide +kernel
theorem dX0_isDoubted_15 : decode cX0_isDoubted 15 = .ok (.goto 4, 3) := by decide +kernel
theorem dX0_isDoubted_18 : decode cX0_isDoubted 18 = .ok (.iconst 0, 1) := by decide +kernel
theorem dX0_isDoubted_19 : decode cX0_isDoubted 19 = .ok (.ireturn, 1) := by decide +kernel
theorem dX0_setOf_0 : decode cX0_setOf 0 = .ok (.iload_n 1, 1) := by decide +kernel
theorem dX0_setOf_1 : decode cX0_setOf 1 = .ok (.ifCond .lt 21, 3) := by decide +kernel
theorem dX0_setOf_4 : decode cX0_setOf 4 = .ok (.iload_n 1, 1) := by decide +kernel
theorem dX0_setOf_5 : decode cX0_setOf 5 = .ok (.aload_n 0, 1) := by decide +kernel
theorem dX0_setOf_6 : decode cX0_setOf 6 = .ok (.getfield 9, 3) := by decide +kernel
theorem dX0_setOf_9 : decode cX0_setOf 9 = .ok (.arraylength, 1) := by decide +kernel
theorem dX0_setOf_10 : decode cX0_setOf 10 = .ok (.if_icmp .ge 12, 3) := by decide +kernel
theorem dX0_setOf_13 : decode cX0_setOf 13 = .ok (.aload_n 0, 1) := by decide +kernel
theorem dX0_setOf_14 : decode cX0_setOf 14 = .ok (.getfield 9, 3) := by decide +kernel
theorem dX0_setOf_17 : decode cX0_setOf 17 = .ok (.iload_n 1, 1) := by decide +kernel
theorem dX0_setOf_18 : decode cX0_setOf 18 = .ok (.iaload, 1) := by decide +kernel
theorem dX0_setOf_19 : decode cX0_setOf 19 = .ok (.goto 4, 3) := by decide +kernel
theorem dX0_setOf_22 : decode cX0_setOf 22 = .ok (.iconst 0, 1) := by decide +kernel
theorem dX0_setOf_23 : decode cX0_setOf 23 = .ok (.ireturn, 1) := by decide +kernel
theorem dX0_hasValue_0 : decode cX0_hasValue 0 = .ok (.aload_n 0, 1) := by decide +kernel
theorem dX0_hasValue_1 : decode cX0_hasValue 1 = .ok (.iload_n 1, 1) := by decide +kernel
theorem dX0_hasValue_2 : decode cX0_hasValue 2 = .ok (.invokevirtual 58, 3) := by decide +kernel
theorem dX0_hasValue_5 : decode cX0_hasValue 5 = .ok (.iload_n 2, 1) := by decide +kernel
theorem dX0_hasValue_6 : decode cX0_hasValue 6 = .ok (.invokestatic 62, 3) := by decide +kernel
theorem dX0_hasValue_9 : decode cX0_hasValue 9 = .ok (.iand, 1) := by decide +kernel
theorem dX0_hasValue_10 : decode cX0_hasValue 10 = .ok (.ifCond .eq 7, 3) := by decide +kernel
theorem dX0_hasValue_13 : decode cX0_hasValue 13 = .ok (.iconst 1, 1) := by decide +kernel
theorem dX0_hasValue_14 : decode cX0_hasValue 14 = .ok (.goto 4, 3) := by decide +kernel
theorem dX0_hasValue_17 : decode cX0_hasValue 17 = .ok (.iconst 0, 1) := by decide +kernel
theorem dX0_hasValue_18 : decode cX0_hasValue 18 = .ok (.ireturn, 1) := by decide +kernel
theorem dX0_partAt_0 : decode cX0_partAt 0 = .ok (.iload_n 1, 1) := by decide +kernel
theorem dX0_partAt_1 : decode cX0_partAt 1 = .ok (.ifCond .lt 21, 3) := by decide +kernel
theorem dX0_partAt_4 : decode cX0_partAt 4 = .ok (.iload_n 1, 1) := by decide +kernel
theorem dX0_partAt_5 : decode cX0_partAt 5 = .ok (.aload_n 0, 1) := by decide +kernel
theorem dX0_partAt_6 : decode cX0_partAt 6 = .ok (.getfield 15, 3) := by decide +kernel
theorem dX0_partAt_9 : decode cX0_partAt 9 = .ok (.arraylength, 1) := by decide +kernel
theorem dX0_partAt_10 : decode cX0_partAt 10 = .ok (.if_icmp .ge 12, 3) := by decide +kernel
theorem dX0_partAt_13 : decode cX0_partAt 13 = .ok (.aload_n 0, 1) := by decide +kernel
theorem dX0_partAt_14 : decode cX0_partAt 14 = .ok (.getfield 15, 3) := by decide +kernel
theorem dX0_partAt_17 : decode cX0_partAt 17 = .ok (.iload_n 1, 1) := by decide +kernel
theorem dX0_partAt_18 : decode cX0_partAt 18 = .ok (.iaload, 1) := by decide +kernel
theorem dX0_partAt_19 : decode cX0_partAt 19 = .ok (.goto 4, 3) := by decide +kernel
theorem dX0_partAt_22 : decode cX0_partAt 22 = .ok (.iconst (-1), 1) := by decide +kernel
theorem dX0_partAt_23 : decode cX0_partAt 23 = .ok (.ireturn, 1) := by decide +kernel
theorem dX0_partCount_0 : decode cX0_partCount 0 = .ok (.iconst 0, 1) := by decide +kernel
theorem dX0_partCount_1 : decode cX0_partCount 1 = .ok (.istore_n 1, 1) := by decide +kernel
theorem dX0_partCount_2 : decode cX0_partCount 2 = .ok (.iconst 0, 1) := by decide +kernel
theorem dX0_partCount_3 : decode cX0_partCount 3 = .ok (.istore_n 2, 1) := by decide +kernel
theorem dX0_partCount_4 : decode cX0_partCount 4 = .ok (.iload_n 2, 1) := by decide +kernel
theorem dX0_partCount_5 : decode cX0_partCount 5 = .ok (.aload_n 0, 1) := by decide +kernel
theorem dX0_partCount_6 : decode cX0_partCount 6 = .ok (.getfield 15, 3) := by decide +kernel
theorem dX0_partCount_9 : decode cX0_partCount 9 = .ok (.arraylength, 1) := by decide +kernel
theorem dX0_partCount_10 : decode cX0_partCount 10 = .ok (.if_icmp .ge 22, 3) := by decide +kernel
theorem dX0_partCount_13 : decode cX0_partCount 13 = .ok (.aload_n 0, 1) := by decide +kernel
theorem dX0_partCount_14 : decode cX0_partCount 14 = .ok (.getfield 15, 3) := by decide +kernel
theorem dX0_partCount_17 : decode cX0_partCount 17 = .ok (.iload_n 2, 1) := by decide +kernel
theorem dX0_partCount_18 : decode cX0_partCount 18 = .ok (.iaload, 1) := by decide +kernel
theorem dX0_partCount_19 : decode cX0_partCount 19 = .ok (.iconst (-1), 1) := by decide +kernel
theorem dX0_partCount_20 : decode cX0_partCount 20 = .ok (.if_icmp .eq 6, 3) := by decide +kernel
theorem dX0_partCount_23 : decode cX0_partCount 23 = .ok (.iinc 1 1, 3) := by decide +kernel
theorem dX0_partCount_26 : decode cX0_partCount 26 = .ok (.iinc 2 1, 3) := by decide +kernel
theorem dX0_partCount_29 : decode cX0_partCount 29 = .ok (.goto (-25), 3) := by decide +kernel
theorem dX0_partCount_32 : decode cX0_partCount 32 = .ok (.iload_n 1, 1) := by decide +kernel
theorem dX0_partCount_33 : decode cX0_partCount 33 = .ok (.ireturn, 1) := by decide +kernel
theorem dX0_putSets_0 : decode cX0_putSets 0 = .ok (.iconst 0, 1) := by decide +kernel
theorem dX0_putSets_1 : decode cX0_putSets 1 = .ok (.istore 4, 2) := by decide +kernel
theorem dX0_putSets_3 : decode cX0_putSets 3 = .ok (.iload 4, 2) := by decide +kernel
theorem dX0_putSets_5 : decode cX0_putSets 5 = .ok (.aload_n 0, 1) := by decide +kernel
theorem dX0_putSets_6 : decode cX0_putSets 6 = .ok (.getfield 9, 3) := by decide +kernel
theorem dX0_putSets_9 : decode cX0_putSets 9 = .ok (.arraylength, 1) := by decide +kernel
theorem dX0_putSets_10 : decode cX0_putSets 10 = .ok (.if_icmp .ge 36, 3) := by decide +kernel
theorem dX0_putSets_13 : decode cX0_putSets 13 = .ok (.aload_n 0, 1) := by decide +kernel
theorem dX0_putSets_14 : decode cX0_putSets 14 = .ok (.getfield 9, 3) := by decide +kernel
theorem dX0_putSets_17 : decode cX0_putSets 17 = .ok (.iload 4, 2) := by decide +kernel
theorem dX0_putSets_19 : decode cX0_putSets 19 = .ok (.iload 4, 2) := by decide +kernel
theorem dX0_putSets_21 : decode cX0_putSets 21 = .ok (.ifCond .ne 7, 3) := by decide +kernel
theorem dX0_putSets_24 : decode cX0_putSets 24 = .ok (.iload_n 1, 1) := by decide +kernel
theorem dX0_putSets_25 : decode cX0_putSets 25 = .ok (.goto 14, 3) := by decide +kernel
theorem dX0_putSets_28 : decode cX0_putSets 28 = .ok (.iload 4, 2) := by decide +kernel
theorem dX0_putSets_30 : decode cX0_putSets 30 = .ok (.iconst 1, 1) := by decide +kernel
theorem dX0_putSets_31 : decode cX0_putSets 31 = .ok (.if_icmp .ne 7, 3) := by decide +kernel
theorem dX0_putSets_34 : decode cX0_putSets 34 = .ok (.iload_n 2, 1) := by decide +kernel
theorem dX0_putSets_35 : decode cX0_putSets 35 = .ok (.goto 4, 3) := by decide +kernel
theorem dX0_putSets_38 : decode cX0_putSets 38 = .ok (.iload_n 3, 1) := by decide +kernel
theorem dX0_putSets_39 : decode cX0_putSets 39 = .ok (.iastore, 1) := by decide +kernel
theorem dX0_putSets_40 : decode cX0_putSets 40 = .ok (.iinc 4 1, 3) := by decide +kernel
theorem dX0_putSets_43 : decode cX0_putSets 43 = .ok (.goto (-40), 3) := by decide +kernel
theorem dX0_putSets_46 : decode cX0_putSets 46 = .ok (.return_, 1) := by decide +kernel
theorem dX0_putParts_0 : decode cX0_putParts 0 = .ok (.iconst 0, 1) := by decide +kernel
theorem dX0_putParts_1 : decode cX0_putParts 1 = .ok (.istore 5, 2) := by decide +kernel
theorem dX0_putParts_3 : decode cX0_putParts 3 = .ok (.iload 5, 2) := by decide +kernel
theorem dX0_putParts_5 : decode cX0_putParts 5 = .ok (.aload_n 0, 1) := by decide +kernel
theorem dX0_putParts_6 : decode cX0_putParts 6 = .ok (.getfield 15, 3) := by decide +kernel
theorem dX0_putParts_9 : decode cX0_putParts 9 = .ok (.arraylength, 1) := by decide +kernel
theorem dX0_putParts_10 : decode cX0_putParts 10 = .ok (.if_icmp .ge 47, 3) := by decide +kernel
theorem dX0_putParts_13 : decode cX0_putParts 13 = .ok (.aload_n 0, 1) := by decide +kernel
theorem dX0_putParts_14 : decode cX0_putParts 14 = .ok (.getfield 15, 3) := by decide +kernel
theorem dX0_putParts_17 : decode cX0_putParts 17 = .ok (.iload 5, 2) := by decide +kernel
theorem dX0_putParts_19 : decode cX0_putParts 19 = .ok (.iload 5, 2) := by decide +kernel
theorem dX0_putParts_21 : decode cX0_putParts 21 = .ok (.ifCond .ne 7, 3) := by decide +kernel
theorem dX0_putParts_24 : decode cX0_putParts 24 = .ok (.iload_n 1, 1) := by decide +kernel
theorem dX0_putParts_25 : decode cX0_putParts 25 = .ok (.goto 25, 3) := by decide +kernel
theorem dX0_putParts_28 : decode cX0_putParts 28 = .ok (.iload 5, 2) := by decide +kernel
theorem dX0_putParts_30 : decode cX0_putParts 30 = .ok (.iconst 1, 1) := by decide +kernel
theorem dX0_putParts_31 : decode cX0_putParts 31 = .ok (.if_icmp .ne 7, 3) := by decide +kernel
theorem dX0_putParts_34 : decode cX0_putParts 34 = .ok (.iload_n 2, 1) := by decide +kernel
theorem dX0_putParts_35 : decode cX0_putParts 35 = .ok (.goto 15, 3) := by decide +kernel
theorem dX0_putParts_38 : decode cX0_putParts 38 = .ok (.iload 5, 2) := by decide +kernel
theorem dX0_putParts_40 : decode cX0_putParts 40 = .ok (.iconst 2, 1) := by decide +kernel
theorem dX0_putParts_41 : decode cX0_putParts 41 = .ok (.if_icmp .ne 7, 3) := by decide +kernel
theorem dX0_putParts_44 : decode cX0_putParts 44 = .ok (.iload_n 3, 1) := by decide +kernel
theorem dX0_putParts_45 : decode cX0_putParts 45 = .ok (.goto 5, 3) := by decide +kernel
theorem dX0_putParts_48 : decode cX0_putParts 48 = .ok (.iload 4, 2) := by decide +kernel
theorem dX0_putParts_50 : decode cX0_putParts 50 = .ok (.iastore, 1) := by decide +kernel
theorem dX0_putParts_51 : decode cX0_putParts 51 = .ok (.iinc 5 1, 3) := by decide +kernel
theorem dX0_putParts_54 : decode cX0_putParts 54 = .ok (.goto (-51), 3) := by decide +kernel
theorem dX0_putParts_57 : decode cX0_putParts 57 = .ok (.return_, 1) := by decide +kernel
theorem dX0_takeAllOf_0 : decode cX0_takeAllOf 0 = .ok (.aload_n 0, 1) := by decide +kernel
theorem dX0_takeAllOf_1 : decode cX0_takeAllOf 1 = .ok (.dup, 1) := by decide +kernel
theorem dX0_takeAllOf_2 : decode cX0_takeAllOf 2 = .ok (.getfield 18, 3) := by decide +kernel
theorem dX0_takeAllOf_5 : decode cX0_takeAllOf 5 = .ok (.aload_n 1, 1) := by decide +kernel
theorem dX0_takeAllOf_6 : decode cX0_takeAllOf 6 = .ok (.getfield 18, 3) := by decide +kernel
theorem dX0_takeAllOf_9 : decode cX0_takeAllOf 9 = .ok (.lor, 1) := by decide +kernel
theorem dX0_takeAllOf_10 : decode cX0_takeAllOf 10 = .ok (.putfield 18, 3) := by decide +kernel
theorem dX0_takeAllOf_13 : decode cX0_takeAllOf 13 = .ok (.iconst 0, 1) := by decide +kernel
theorem dX0_takeAllOf_14 : decode cX0_takeAllOf 14 = .ok (.istore_n 2, 1) := by decide +kernel
theorem dX0_takeAllOf_15 : decode cX0_takeAllOf 15 = .ok (.iload_n 2, 1) := by decide +kernel
theorem dX0_takeAllOf_16 : decode cX0_takeAllOf 16 = .ok (.aload_n 0, 1) := by decide +kernel
theorem dX0_takeAllOf_17 : decode cX0_takeAllOf 17 = .ok (.getfield 9, 3) := by decide +kernel
theorem dX0_takeAllOf_20 : decode cX0_takeAllOf 20 = .ok (.arraylength, 1) := by decide +kernel
theorem dX0_takeAllOf_21 : decode cX0_takeAllOf 21 = .ok (.if_icmp .ge 23, 3) := by decide +kernel
theorem dX0_takeAllOf_24 : decode cX0_takeAllOf 24 = .ok (.aload_n 0, 1) := by decide +kernel
theorem dX0_takeAllOf_25 : decode cX0_takeAllOf 25 = .ok (.getfield 9, 3) := by decide +kernel
theorem dX0_takeAllOf_28 : decode cX0_takeAllOf 28 = .ok (.iload_n 2, 1) := by decide +kernel
theorem dX0_takeAllOf_29 : decode cX0_takeAllOf 29 = .ok (.dup2, 1) := by decide +kernel
theorem dX0_takeAllOf_30 : decode cX0_takeAllOf 30 = .ok (.iaload, 1) := by decide +kernel
theorem dX0_takeAllOf_31 : decode cX0_takeAllOf 31 = .ok (.aload_n 1, 1) := by decide +kernel
theorem dX0_takeAllOf_32 : decode cX0_takeAllOf 32 = .ok (.iload_n 2, 1) := by decide +kernel
theorem dX0_takeAllOf_33 : decode cX0_takeAllOf 33 = .ok (.invokevirtual 58, 3) := by decide +kernel
theorem dX0_takeAllOf_36 : decode cX0_takeAllOf 36 = .ok (.ior, 1) := by decide +kernel
theorem dX0_takeAllOf_37 : decode cX0_takeAllOf 37 = .ok (.iastore, 1) := by decide +kernel
theorem dX0_takeAllOf_38 : decode cX0_takeAllOf 38 = .ok (.iinc 2 1, 3) := by decide +kernel
theorem dX0_takeAllOf_41 : decode cX0_takeAllOf 41 = .ok (.goto (-26), 3) := by decide +kernel
theorem dX0_takeAllOf_44 : decode cX0_takeAllOf 44 = .ok (.aload_n 0, 1) := by decide +kernel
theorem dX0_takeAllOf_45 : decode cX0_takeAllOf 45 = .ok (.dup, 1) := by decide +kernel
theorem dX0_takeAllOf_46 : decode cX0_takeAllOf 46 = .ok (.getfield 22, 3) := by decide +kernel
theorem dX0_takeAllOf_49 : decode cX0_takeAllOf 49 = .ok (.aload_n 1, 1) := by decide +kernel
theorem dX0_takeAllOf_50 : decode cX0_takeAllOf 50 = .ok (.getfield 22, 3) := by decide +kernel
theorem dX0_takeAllOf_53 : decode cX0_takeAllOf 53 = .ok (.ior, 1) := by decide +kernel
theorem dX0_takeAllOf_54 : decode cX0_takeAllOf 54 = .ok (.putfield 22, 3) := by decide +kernel
theorem dX0_takeAllOf_57 : decode cX0_takeAllOf 57 = .ok (.aload_n 0, 1) := by decide +kernel
theorem dX0_takeAllOf_58 : decode cX0_takeAllOf 58 = .ok (.aload_n 0, 1) := by decide +kernel
theorem dX0_takeAllOf_59 : decode cX0_takeAllOf 59 = .ok (.getfield 26, 3) := by decide +kernel
theorem dX0_takeAllOf_62 : decode cX0_takeAllOf 62 = .ok (.aload_n 1, 1) := by decide +kernel
theorem dX0_takeAllOf_63 : decode cX0_takeAllOf 63 = .ok (.getfield 26, 3) := by decide +kernel
theorem dX0_takeAllOf_66 : decode cX0_takeAllOf 66 = .ok (.invokestatic 65, 3) := by decide +kernel
theorem dX0_takeAllOf_69 : decode cX0_takeAllOf 69 = .ok (.putfield 26, 3) := by decide +kernel
theorem dX0_takeAllOf_72 : decode cX0_takeAllOf 72 = .ok (.aload_n 0, 1) := by decide +kernel
theorem dX0_takeAllOf_73 : decode cX0_takeAllOf 73 = .ok (.dup, 1) := by decide +kernel
theorem dX0_takeAllOf_74 : decode cX0_takeAllOf 74 = .ok (.getfield 29, 3) := by decide +kernel
theorem dX0_takeAllOf_77 : decode cX0_takeAllOf 77 = .ok (.aload_n 1, 1) := by decide +kernel
theorem dX0_takeAllOf_78 : decode cX0_takeAllOf 78 = .ok (.getfield 29, 3) := by decide +kernel
theorem dX0_takeAllOf_81 : decode cX0_takeAllOf 81 = .ok (.iadd, 1) := by decide +kernel
theorem dX0_takeAllOf_82 : decode cX0_takeAllOf 82 = .ok (.putfield 29, 3) := by decide +kernel
theorem dX0_takeAllOf_85 : decode cX0_takeAllOf 85 = .ok (.return_, 1) := by decide +kernel
theorem dX0_clearGathered_0 : decode cX0_clearGathered 0 = .ok (.aload_n 0, 1) := by decide +kernel
theorem dX0_clearGathered_1 : decode cX0_clearGathered 1 = .ok (.lconst 0, 1) := by decide +kernel
theorem dX0_clearGathered_2 : decode cX0_clearGathered 2 = .ok (.putfield 18, 3) := by decide +kernel
theorem dX0_clearGathered_5 : decode cX0_clearGathered 5 = .ok (.iconst 0, 1) := by decide +kernel
theorem dX0_clearGathered_6 : decode cX0_clearGathered 6 = .ok (.istore_n 1, 1) := by decide +kernel
theorem dX0_clearGathered_7 : decode cX0_clearGathered 7 = .ok (.iload_n 1, 1) := by decide +kernel
theorem dX0_clearGathered_8 : decode cX0_clearGathered 8 = .ok (.aload_n 0, 1) := by decide +kernel
theorem dX0_clearGathered_9 : decode cX0_clearGathered 9 = .ok (.getfield 9, 3) := by decide +kernel
theorem dX0_clearGathered_12 : decode cX0_clearGathered 12 = .ok (.arraylength, 1) := by decide +kernel
theorem dX0_clearGathered_13 : decode cX0_clearGathered 13 = .ok (.if_icmp .ge 19, 3) := by decide +kernel
theorem dX0_clearGathered_16 : decode cX0_clearGathered 16 = .ok (.aload_n 0, 1) := by decide +kernel
theorem dX0_clearGathered_17 : decode cX0_clearGathered 17 = .ok (.getfield 9, 3) := by decide +kernel
theorem dX0_clearGathered_20 : decode cX0_clearGathered 20 = .ok (.iload_n 1, 1) := by decide +kernel
theorem dX0_clearGathered_21 : decode cX0_clearGathered 21 = .ok (.iload_n 1, 1) := by decide +kernel
theorem dX0_clearGathered_22 : decode cX0_clearGathered 22 = .ok (.invokestatic 71, 3) := by decide +kernel
theorem dX0_clearGathered_25 : decode cX0_clearGathered 25 = .ok (.iastore, 1) := by decide +kernel
theorem dX0_clearGathered_26 : decode cX0_clearGathered 26 = .ok (.iinc 1 1, 3) := by decide +kernel
theorem dX0_clearGathered_29 : decode cX0_clearGathered 29 = .ok (.goto (-22), 3) := by decide +kernel
theorem dX0_clearGathered_32 : decode cX0_clearGathered 32 = .ok (.aload_n 0, 1) := by decide +kernel
theorem dX0_clearGathered_33 : decode cX0_clearGathered 33 = .ok (.iconst 0, 1) := by decide +kernel
theorem dX0_clearGathered_34 : decode cX0_clearGathered 34 = .ok (.putfield 22, 3) := by decide +kernel
theorem dX0_clearGathered_37 : decode cX0_clearGathered 37 = .ok (.aload_n 0, 1) := by decide +kernel
theorem dX0_clearGathered_38 : decode cX0_clearGathered 38 = .ok (.iconst 0, 1) := by decide +kernel
theorem dX0_clearGathered_39 : decode cX0_clearGathered 39 = .ok (.putfield 35, 3) := by decide +kernel
theorem dX0_clearGathered_42 : decode cX0_clearGathered 42 = .ok (.return_, 1) := by decide +kernel
theorem dX0_gather_0 : decode cX0_gather 0 = .ok (.aload_n 0, 1) := by decide +kernel
theorem dX0_gather_1 : decode cX0_gather 1 = .ok (.dup, 1) := by decide +kernel
theorem dX0_gather_2 : decode cX0_gather 2 = .ok (.getfield 18, 3) := by decide +kernel
theorem dX0_gather_5 : decode cX0_gather 5 = .ok (.aload_n 1, 1) := by decide +kernel
theorem dX0_gather_6 : decode cX0_gather 6 = .ok (.getfield 18, 3) := by decide +kernel
theorem dX0_gather_9 : decode cX0_gather 9 = .ok (.lor, 1) := by decide +kernel
theorem dX0_gather_10 : decode cX0_gather 10 = .ok (.putfield 18, 3) := by decide +kernel
theorem dX0_gather_13 : decode cX0_gather 13 = .ok (.iconst 0, 1) := by decide +kernel
theorem dX0_gather_14 : decode cX0_gather 14 = .ok (.istore_n 2, 1) := by decide +kernel
theorem dX0_gather_15 : decode cX0_gather 15 = .ok (.iload_n 2, 1) := by decide +kernel
theorem dX0_gather_16 : decode cX0_gather 16 = .ok (.aload_n 0, 1) := by decide +kernel
theorem dX0_gather_17 : decode cX0_gather 17 = .ok (.getfield 9, 3) := by decide +kernel
theorem dX0_gather_20 : decode cX0_gather 20 = .ok (.arraylength, 1) := by decide +kernel
theorem dX0_gather_21 : decode cX0_gather 21 = .ok (.if_icmp .ge 23, 3) := by decide +kernel
theorem dX0_gather_24 : decode cX0_gather 24 = .ok (.aload_n 0, 1) := by decide +kernel
theorem dX0_gather_25 : decode cX0_gather 25 = .ok (.getfield 9, 3) := by decide +kernel
theorem dX0_gather_28 : decode cX0_gather 28 = .ok (.iload_n 2, 1) := by decide +kernel
theorem dX0_gather_29 : decode cX0_gather 29 = .ok (.dup2, 1) := by decide +kernel
theorem dX0_gather_30 : decode cX0_gather 30 = .ok (.iaload, 1) := by decide +kernel
theorem dX0_gather_31 : decode cX0_gather 31 = .ok (.aload_n 1, 1) := by decide +kernel
theorem dX0_gather_32 : decode cX0_gather 32 = .ok (.iload_n 2, 1) := by decide +kernel
theorem dX0_gather_33 : decode cX0_gather 33 = .ok (.invokevirtual 58, 3) := by decide +kernel
theorem dX0_gather_36 : decode cX0_gather 36 = .ok (.iand, 1) := by decide +kernel
theorem dX0_gather_37 : decode cX0_gather 37 = .ok (.iastore, 1) := by decide +kernel
theorem dX0_gather_38 : decode cX0_gather 38 = .ok (.iinc 2 1, 3) := by decide +kernel
theorem dX0_gather_41 : decode cX0_gather 41 = .ok (.goto (-26), 3) := by decide +kernel
theorem dX0_gather_44 : decode cX0_gather 44 = .ok (.aload_n 0, 1) := by decide +kernel
theorem dX0_gather_45 : decode cX0_gather 45 = .ok (.dup, 1) := by decide +kernel
theorem dX0_gather_46 : decode cX0_gather 46 = .ok (.getfield 22, 3) := by decide +kernel
theorem dX0_gather_49 : decode cX0_gather 49 = .ok (.aload_n 1, 1) := by decide +kernel
theorem dX0_gather_50 : decode cX0_gather 50 = .ok (.getfield 22, 3) := by decide +kernel
theorem dX0_gather_53 : decode cX0_gather 53 = .ok (.ior, 1) := by decide +kernel
theorem dX0_gather_54 : decode cX0_gather 54 = .ok (.putfield 22, 3) := by decide +kernel
theorem dX0_gather_57 : decode cX0_gather 57 = .ok (.aload_n 0, 1) := by decide +kernel
theorem dX0_gather_58 : decode cX0_gather 58 = .ok (.aload_n 0, 1) := by decide +kernel
theorem dX0_gather_59 : decode cX0_gather 59 = .ok (.getfield 35, 3) := by decide +kernel
theorem dX0_gather_62 : decode cX0_gather 62 = .ok (.ifCond .ne 10, 3) := by decide +kernel
theorem dX0_gather_65 : decode cX0_gather 65 = .ok (.aload_n 1, 1) := by decide +kernel
theorem dX0_gather_66 : decode cX0_gather 66 = .ok (.getfield 35, 3) := by decide +kernel
theorem dX0_gather_69 : decode cX0_gather 69 = .ok (.ifCond .eq 7, 3) := by decide +kernel
theorem dX0_gather_72 : decode cX0_gather 72 = .ok (.iconst 1, 1) := by decide +kernel
theorem dX0_gather_73 : decode cX0_gather 73 = .ok (.goto 4, 3) := by decide +kernel
theorem dX0_gather_76 : decode cX0_gather 76 = .ok (.iconst 0, 1) := by decide +kernel
theorem dX0_gather_77 : decode cX0_gather 77 = .ok (.putfield 35, 3) := by decide +kernel
theorem dX0_gather_80 : decode cX0_gather 80 = .ok (.return_, 1) := by decide +kernel
theorem dX1_init_0 : decode cX1_init 0 = .ok (.aload_n 0, 1) := by decide +kernel
theorem dX1_init_1 : decode cX1_init 1 = .ok (.invokespecial 3, 3) := by decide +kernel
theorem dX1_init_4 : decode cX1_init 4 = .ok (.aload_n 0, 1) := by decide +kernel
theorem dX1_init_5 : decode cX1_init 5 = .ok (.iconst 3, 1) := by decide +kernel
theorem dX1_init_6 : decode cX1_init 6 = .ok (.newarray .int, 2) := by decide +kernel
theorem dX1_init_8 : decode cX1_init 8 = .ok (.putfield 9, 3) := by decide +kernel
theorem dX1_init_11 : decode cX1_init 11 = .ok (.aload_n 0, 1) := by decide +kernel
theorem dX1_init_12 : decode cX1_init 12 = .ok (.lconst 0, 1) := by decide +kernel
theorem dX1_init_13 : decode cX1_init 13 = .ok (.putfield 15, 3) := by decide +kernel
theorem dX1_init_16 : decode cX1_init 16 = .ok (.aload_n 0, 1) := by decide +kernel
theorem dX1_init_17 : decode cX1_init 17 = .ok (.lload_n 1, 1) := by decide +kernel
theorem dX1_init_18 : decode cX1_init 18 = .ok (.putfield 19, 3) := by decide +kernel
theorem dX1_init_21 : decode cX1_init 21 = .ok (.iconst 0, 1) := by decide +kernel
theorem dX1_init_22 : decode cX1_init 22 = .ok (.istore 6, 2) := by decide +kernel
theorem dX1_init_24 : decode cX1_init 24 = .ok (.iload 6, 2) := by decide +kernel
theorem dX1_init_26 : decode cX1_init 26 = .ok (.aload_n 0, 1) := by decide +kernel
theorem dX1_init_27 : decode cX1_init 27 = .ok (.getfield 9, 3) := by decide +kernel
theorem dX1_init_30 : decode cX1_init 30 = .ok (.arraylength, 1) := by decide +kernel
theorem dX1_init_31 : decode cX1_init 31 = .ok (.if_icmp .ge 38, 3) := by decide +kernel
theorem dX1_init_34 : decode cX1_init 34 = .ok (.aload_n 0, 1) := by decide +kernel
theorem dX1_init_35 : decode cX1_init 35 = .ok (.getfield 9, 3) := by decide +kernel
theorem dX1_init_38 : decode cX1_init 38 = .ok (.iload 6, 2) := by decide +kernel
theorem dX1_init_40 : decode cX1_init 40 = .ok (.iload 6, 2) := by decide +kernel
theorem dX1_init_42 : decode cX1_init 42 = .ok (.ifCond .ne 7, 3) := by decide +kernel
theorem dX1_init_45 : decode cX1_init 45 = .ok (.iload_n 3, 1) := by decide +kernel
theorem dX1_init_46 : decode cX1_init 46 = .ok (.goto 16, 3) := by decide +kernel
theorem dX1_init_49 : decode cX1_init 49 = .ok (.iload 6, 2) := by decide +kernel
theorem dX1_init_51 : decode cX1_init 51 = .ok (.iconst 1, 1) := by decide +kernel
theorem dX1_init_52 : decode cX1_init 52 = .ok (.if_icmp .ne 8, 3) := by decide +kernel
theorem dX1_init_55 : decode cX1_init 55 = .ok (.iload 4, 2) := by decide +kernel
theorem dX1_init_57 : decode cX1_init 57 = .ok (.goto 5, 3) := by decide +kernel
theorem dX1_init_60 : decode cX1_init 60 = .ok (.iload 5, 2) := by decide +kernel
theorem dX1_init_62 : decode cX1_init 62 = .ok (.iastore, 1) := by decide +kernel
theorem dX1_init_63 : decode cX1_init 63 = .ok (.iinc 6 1, 3) := by decide +kernel
theorem dX1_init_66 : decode cX1_init 66 = .ok (.goto (-42), 3) := by decide +kernel
theorem dX1_init_69 : decode cX1_init 69 = .ok (.return_, 1) := by decide +kernel
theorem dX1_valueFor_0 : decode cX1_valueFor 0 = .ok (.iload_n 1, 1) := by decide +kernel
theorem dX1_valueFor_1 : decode cX1_valueFor 1 = .ok (.ifCond .lt 21, 3) := by decide +kernel
theorem dX1_valueFor_4 : decode cX1_valueFor 4 = .ok (.iload_n 1, 1) := by decide +kernel
theorem dX1_valueFor_5 : decode cX1_valueFor 5 = .ok (.aload_n 0, 1) := by decide +kernel
theorem dX1_valueFor_6 : decode cX1_valueFor 6 = .ok (.getfield 9, 3) := by decide +kernel
theorem dX1_valueFor_9 : decode cX1_valueFor 9 = .ok (.arraylength, 1) := by decide +kernel
theorem dX1_valueFor_10 : decode cX1_valueFor 10 = .ok (.if_icmp .ge 12, 3) := by decide +kernel
theorem dX1_valueFor_13 : decode cX1_valueFor 13 = .ok (.aload_n 0, 1) := by decide +kernel
theorem dX1_valueFor_14 : decode cX1_valueFor 14 = .ok (.getfield 9, 3) := by decide +kernel
theorem dX1_valueFor_17 : decode cX1_valueFor 17 = .ok (.iload_n 1, 1) := by decide +kernel
theorem dX1_valueFor_18 : decode cX1_valueFor 18 = .ok (.iaload, 1) := by decide +kernel
theorem dX1_valueFor_19 : decode cX1_valueFor 19 = .ok (.goto 4, 3) := by decide +kernel
theorem dX1_valueFor_22 : decode cX1_valueFor 22 = .ok (.iconst (-1), 1) := by decide +kernel
theorem dX1_valueFor_23 : decode cX1_valueFor 23 = .ok (.ireturn, 1) := by decide +kernel
theorem dX2_init_0 : decode cX2_init 0 = .ok (.aload_n 0, 1) := by decide +kernel
theorem dX2_init_1 : decode cX2_init 1 = .ok (.invokespecial 3, 3) := by decide +kernel
theorem dX2_init_4 : decode cX2_init 4 = .ok (.aload_n 0, 1) := by decide +kernel
theorem dX2_init_5 : decode cX2_init 5 = .ok (.bipush 40, 2) := by decide +kernel
theorem dX2_init_7 : decode cX2_init 7 = .ok (.newarray .int, 2) := by decide +kernel
theorem dX2_init_9 : decode cX2_init 9 = .ok (.putfield 9, 3) := by decide +kernel
theorem dX2_init_12 : decode cX2_init 12 = .ok (.iconst 0, 1) := by decide +kernel
theorem dX2_init_13 : decode cX2_init 13 = .ok (.istore_n 1, 1) := by decide +kernel
theorem dX2_init_14 : decode cX2_init 14 = .ok (.iload_n 1, 1) := by decide +kernel
theorem dX2_init_15 : decode cX2_init 15 = .ok (.aload_n 0, 1) := by decide +kernel
theorem dX2_init_16 : decode cX2_init 16 = .ok (.getfield 9, 3) := by decide +kernel
theorem dX2_init_19 : decode cX2_init 19 = .ok (.arraylength, 1) := by decide +kernel
theorem dX2_init_20 : decode cX2_init 20 = .ok (.if_icmp .ge 16, 3) := by decide +kernel
theorem dX2_init_23 : decode cX2_init 23 = .ok (.aload_n 0, 1) := by decide +kernel
theorem dX2_init_24 : decode cX2_init 24 = .ok (.getfield 9, 3) := by decide +kernel
theorem dX2_init_27 : decode cX2_init 27 = .ok (.iload_n 1, 1) := by decide +kernel
theorem dX2_init_28 : decode cX2_init 28 = .ok (.iload_n 1, 1) := by decide +kernel
theorem dX2_init_29 : decode cX2_init 29 = .ok (.iastore, 1) := by decide +kernel
theorem dX2_init_30 : decode cX2_init 30 = .ok (.iinc 1 1, 3) := by decide +kernel
theorem dX2_init_33 : decode cX2_init 33 = .ok (.goto (-19), 3) := by decide +kernel
theorem dX2_init_36 : decode cX2_init 36 = .ok (.return_, 1) := by decide +kernel
theorem dX2_foldOf_0 : decode cX2_foldOf 0 = .ok (.iload_n 1, 1) := by decide +kernel
theorem dX2_foldOf_1 : decode cX2_foldOf 1 = .ok (.ifCond .lt 21, 3) := by decide +kernel
theorem dX2_foldOf_4 : decode cX2_foldOf 4 = .ok (.iload_n 1, 1) := by decide +kernel
theorem dX2_foldOf_5 : decode cX2_foldOf 5 = .ok (.aload_n 0, 1) := by decide +kernel
theorem dX2_foldOf_6 : decode cX2_foldOf 6 = .ok (.getfield 9, 3) := by decide +kernel
theorem dX2_foldOf_9 : decode cX2_foldOf 9 = .ok (.arraylength, 1) := by decide +kernel
theorem dX2_foldOf_10 : decode cX2_foldOf 10 = .ok (.if_icmp .ge 12, 3) := by decide +kernel
theorem dX2_foldOf_13 : decode cX2_foldOf 13 = .ok (.aload_n 0, 1) := by decide +kernel
theorem dX2_foldOf_14 : decode cX2_foldOf 14 = .ok (.getfield 9, 3) := by decide +kernel
theorem dX2_foldOf_17 : decode cX2_foldOf 17 = .ok (.iload_n 1, 1) := by decide +kernel
theorem dX2_foldOf_18 : decode cX2_foldOf 18 = .ok (.iaload, 1) := by decide +kernel
theorem dX2_foldOf_19 : decode cX2_foldOf 19 = .ok (.goto 4, 3) := by decide +kernel
theorem dX2_foldOf_22 : decode cX2_foldOf 22 = .ok (.iconst (-1), 1) := by decide +kernel
theorem dX2_foldOf_23 : decode cX2_foldOf 23 = .ok (.ireturn, 1) := by decide +kernel
theorem dX2_turn_0 : decode cX2_turn 0 = .ok (.iload_n 1, 1) := by decide +kernel
theorem dX2_turn_1 : decode cX2_turn 1 = .ok (.ifCond .lt 19, 3) := by decide +kernel
theorem dX2_turn_4 : decode cX2_turn 4 = .ok (.iload_n 1, 1) := by decide +kernel
theorem dX2_turn_5 : decode cX2_turn 5 = .ok (.aload_n 0, 1) := by decide +kernel
theorem dX2_turn_6 : decode cX2_turn 6 = .ok (.getfield 9, 3) := by decide +kernel
theorem dX2_turn_9 : decode cX2_turn 9 = .ok (.arraylength, 1) := by decide +kernel
theorem dX2_turn_10 : decode cX2_turn 10 = .ok (.if_icmp .ge 10, 3) := by decide +kernel
theorem dX2_turn_13 : decode cX2_turn 13 = .ok (.aload_n 0, 1) := by decide +kernel
theorem dX2_turn_14 : decode cX2_turn 14 = .ok (.getfield 9, 3) := by decide +kernel
theorem dX2_turn_17 : decode cX2_turn 17 = .ok (.iload_n 1, 1) := by decide +kernel
theorem dX2_turn_18 : decode cX2_turn 18 = .ok (.iload_n 2, 1) := by decide +kernel
theorem dX2_turn_19 : decode cX2_turn 19 = .ok (.iastore, 1) := by decide +kernel
theorem dX2_turn_20 : decode cX2_turn 20 = .ok (.return_, 1) := by decide +kernel
theorem dX2_folded_0 : decode cX2_folded 0 = .ok (.lconst 0, 1) := by decide +kernel
theorem dX2_folded_1 : decode cX2_folded 1 = .ok (.lstore_n 3, 1) := by decide +kernel
theorem dX2_folded_2 : decode cX2_folded 2 = .ok (.iconst 0, 1) := by decide +kernel
theorem dX2_folded_3 : decode cX2_folded 3 = .ok (.istore 5, 2) := by decide +kernel
theorem dX2_folded_5 : decode cX2_folded 5 = .ok (.iload 5, 2) := by decide +kernel
theorem dX2_folded_7 : decode cX2_folded 7 = .ok (.aload_n 0, 1) := by decide +kernel
theorem dX2_folded_8 : decode cX2_folded 8 = .ok (.getfield 9, 3) := by decide +kernel
theorem dX2_folded_11 : decode cX2_folded 11 = .ok (.arraylength, 1) := by decide +kernel
theorem dX2_folded_12 : decode cX2_folded 12 = .ok (.if_icmp .ge 32, 3) := by decide +kernel
theorem dX2_folded_15 : decode cX2_folded 15 = .ok (.lload_n 1, 1) := by decide +kernel
theorem dX2_folded_16 : decode cX2_folded 16 = .ok (.lconst 1, 1) := by decide +kernel
theorem dX2_folded_17 : decode cX2_folded 17 = .ok (.iload 5, 2) := by decide +kernel
theorem dX2_folded_19 : decode cX2_folded 19 = .ok (.lshl, 1) := by decide +kernel
theorem dX2_folded_20 : decode cX2_folded 20 = .ok (.land, 1) := by decide +kernel
theorem dX2_folded_21 : decode cX2_folded 21 = .ok (.lconst 0, 1) := by decide +kernel
theorem dX2_folded_22 : decode cX2_folded 22 = .ok (.lcmp, 1) := by decide +kernel
theorem dX2_folded_23 : decode cX2_folded 23 = .ok (.ifCond .eq 15, 3) := by decide +kernel
theorem dX2_folded_26 : decode cX2_folded 26 = .ok (.lload_n 3, 1) := by decide +kernel
theorem dX2_folded_27 : decode cX2_folded 27 = .ok (.lconst 1, 1) := by decide +kernel
theorem dX2_folded_28 : decode cX2_folded 28 = .ok (.aload_n 0, 1) := by decide +kernel
theorem dX2_folded_29 : decode cX2_folded 29 = .ok (.getfield 9, 3) := by decide +kernel
theorem dX2_folded_32 : decode cX2_folded 32 = .ok (.iload 5, 2) := by decide +kernel
theorem dX2_folded_34 : decode cX2_folded 34 = .ok (.iaload, 1) := by decide +kernel
theorem dX2_folded_35 : decode cX2_folded 35 = .ok (.lshl, 1) := by decide +kernel
theorem dX2_folded_36 : decode cX2_folded 36 = .ok (.lor, 1) := by decide +kernel
theorem dX2_folded_37 : decode cX2_folded 37 = .ok (.lstore_n 3, 1) := by decide +kernel
theorem dX2_folded_38 : decode cX2_folded 38 = .ok (.iinc 5 1, 3) := by decide +kernel
theorem dX2_folded_41 : decode cX2_folded 41 = .ok (.goto (-36), 3) := by decide +kernel
theorem dX2_folded_44 : decode cX2_folded 44 = .ok (.lload_n 3, 1) := by decide +kernel
theorem dX2_folded_45 : decode cX2_folded 45 = .ok (.lreturn, 1) := by decide +kernel
theorem dX3_init_0 : decode cX3_init 0 = .ok (.aload_n 0, 1) := by decide +kernel
theorem dX3_init_1 : decode cX3_init 1 = .ok (.invokespecial 3, 3) := by decide +kernel
theorem dX3_init_4 : decode cX3_init 4 = .ok (.aload_n 0, 1) := by decide +kernel
theorem dX3_init_5 : decode cX3_init 5 = .ok (.bipush 10, 2) := by decide +kernel
theorem dX3_init_7 : decode cX3_init 7 = .ok (.newarray .int, 2) := by decide +kernel
theorem dX3_init_9 : decode cX3_init 9 = .ok (.putfield 9, 3) := by decide +kernel
theorem dX3_init_12 : decode cX3_init 12 = .ok (.aload_n 0, 1) := by decide +kernel
theorem dX3_init_13 : decode cX3_init 13 = .ok (.bipush 10, 2) := by decide +kernel
theorem dX3_init_15 : decode cX3_init 15 = .ok (.newarray .int, 2) := by decide +kernel
theorem dX3_init_17 : decode cX3_init 17 = .ok (.putfield 15, 3) := by decide +kernel
theorem dX3_init_20 : decode cX3_init 20 = .ok (.aload_n 0, 1) := by decide +kernel
theorem dX3_init_21 : decode cX3_init 21 = .ok (.iconst 0, 1) := by decide +kernel
theorem dX3_init_22 : decode cX3_init 22 = .ok (.putfield 18, 3) := by decide +kernel
theorem dX3_init_25 : decode cX3_init 25 = .ok (.return_, 1) := by decide +kernel
theorem dX3_now_0 : decode cX3_now 0 = .ok (.aload_n 0, 1) := by decide +kernel
theorem dX3_now_1 : decode cX3_now 1 = .ok (.getfield 18, 3) := by decide +kernel
theorem dX3_now_4 : decode cX3_now 4 = .ok (.ireturn, 1) := by decide +kernel
theorem dX3_change_0 : decode cX3_change 0 = .ok (.iload_n 1, 1) := by decide +kernel
theorem dX3_change_1 : decode cX3_change 1 = .ok (.ifCond .lt 21, 3) := by decide +kernel
theorem dX3_change_4 : decode cX3_change 4 = .ok (.iload_n 1, 1) := by decide +kernel
theorem dX3_change_5 : decode cX3_change 5 = .ok (.aload_n 0, 1) := by decide +kernel
theorem dX3_change_6 : decode cX3_change 6 = .ok (.getfield 9, 3) := by decide +kernel
theorem dX3_change_9 : decode cX3_change 9 = .ok (.arraylength, 1) := by decide +kernel
theorem dX3_change_10 : decode cX3_change 10 = .ok (.if_icmp .ge 12, 3) := by decide +kernel
theorem dX3_change_13 : decode cX3_change 13 = .ok (.iload_n 1, 1) := by decide +kernel
theorem dX3_change_14 : decode cX3_change 14 = .ok (.aload_n 0, 1) := by decide +kernel
theorem dX3_change_15 : decode cX3_change 15 = .ok (.getfield 15, 3) := by decide +kernel
theorem dX3_change_18 : decode cX3_change 18 = .ok (.arraylength, 1) := by decide +kernel
theorem dX3_change_19 : decode cX3_change 19 = .ok (.if_icmp .lt 7, 3) := by decide +kernel
theorem dX3_change_22 : decode cX3_change 22 = .ok (.sipush (-1001), 3) := by decide +kernel
theorem dX3_change_25 : decode cX3_change 25 = .ok (.ireturn, 1) := by decide +kernel
theorem dX3_change_26 : decode cX3_change 26 = .ok (.aload_n 0, 1) := by decide +kernel
theorem dX3_change_27 : decode cX3_change 27 = .ok (.dup, 1) := by decide +kernel
theorem dX3_change_28 : decode cX3_change 28 = .ok (.getfield 18, 3) := by decide +kernel
theorem dX3_change_31 : decode cX3_change 31 = .ok (.iconst 1, 1) := by decide +kernel
theorem dX3_change_32 : decode cX3_change 32 = .ok (.iadd, 1) := by decide +kernel
theorem dX3_change_33 : decode cX3_change 33 = .ok (.putfield 18, 3) := by decide +kernel
theorem dX3_change_36 : decode cX3_change 36 = .ok (.aload_n 0, 1) := by decide +kernel
theorem dX3_change_37 : decode cX3_change 37 = .ok (.getfield 15, 3) := by decide +kernel
theorem dX3_change_40 : decode cX3_change 40 = .ok (.iload_n 1, 1) := by decide +kernel
theorem dX3_change_41 : decode cX3_change 41 = .ok (.aload_n 0, 1) := by decide +kernel
theorem dX3_change_42 : decode cX3_change 42 = .ok (.getfield 18, 3) := by decide +kernel
theorem dX3_change_45 : decode cX3_change 45 = .ok (.iastore, 1) := by decide +kernel
theorem dX3_change_46 : decode cX3_change 46 = .ok (.aload_n 0, 1) := by decide +kernel
theorem dX3_change_47 : decode cX3_change 47 = .ok (.getfield 9, 3) := by decide +kernel
theorem dX3_change_50 : decode cX3_change 50 = .ok (.iload_n 1, 1) := by decide +kernel
theorem dX3_change_51 : decode cX3_change 51 = .ok (.dup2, 1) := by decide +kernel
theorem dX3_change_52 : decode cX3_change 52 = .ok (.iaload, 1) := by decide +kernel
theorem dX3_change_53 : decode cX3_change 53 = .ok (.iconst 1, 1) := by decide +kernel
theorem dX3_change_54 : decode cX3_change 54 = .ok (.iadd, 1) := by decide +kernel
theorem dX3_change_55 : decode cX3_change 55 = .ok (.iastore, 1) := by decide +kernel
theorem dX3_change_56 : decode cX3_change 56 = .ok (.aload_n 0, 1) := by decide +kernel
theorem dX3_change_57 : decode cX3_change 57 = .ok (.getfield 9, 3) := by decide +kernel
theorem dX3_change_60 : decode cX3_change 60 = .ok (.iload_n 1, 1) := by decide +kernel
theorem dX3_change_61 : decode cX3_change 61 = .ok (.iaload, 1) := by decide +kernel
theorem dX3_change_62 : decode cX3_change 62 = .ok (.ireturn, 1) := by decide +kernel
theorem dX3_isChangedSince_0 : decode cX3_isChangedSince 0 = .ok (.iconst 0, 1) := by decide +kernel
theorem dX3_isChangedSince_1 : decode cX3_isChangedSince 1 = .ok (.istore_n 3, 1) := by decide +kernel
theorem dX3_isChangedSince_2 : decode cX3_isChangedSince 2 = .ok (.iload_n 3, 1) := by decide +kernel
theorem dX3_isChangedSince_3 : decode cX3_isChangedSince 3 = .ok (.aload_n 0, 1) := by decide +kernel
theorem dX3_isChangedSince_4 : decode cX3_isChangedSince 4 = .ok (.getfield 15, 3) := by decide +kernel
theorem dX3_isChangedSince_7 : decode cX3_isChangedSince 7 = .ok (.arraylength, 1) := by decide +kernel
theorem dX3_isChangedSince_8 : decode cX3_isChangedSince 8 = .ok (.if_icmp .ge 30, 3) := by decide +kernel
theorem dX3_isChangedSince_11 : decode cX3_isChangedSince 11 = .ok (.iload_n 1, 1) := by decide +kernel
theorem dX3_isChangedSince_12 : decode cX3_isChangedSince 12 = .ok (.iload_n 3, 1) := by decide +kernel
theorem dX3_isChangedSince_13 : decode cX3_isChangedSince 13 = .ok (.invokestatic 22, 3) := by decide +kernel
theorem dX3_isChangedSince_16 : decode cX3_isChangedSince 16 = .ok (.iand, 1) := by decide +kernel
theorem dX3_isChangedSince_17 : decode cX3_isChangedSince 17 = .ok (.ifCond .eq 15, 3) := by decide +kernel
theorem dX3_isChangedSince_20 : decode cX3_isChangedSince 20 = .ok (.aload_n 0, 1) := by decide +kernel
theorem dX3_isChangedSince_21 : decode cX3_isChangedSince 21 = .ok (.getfield 15, 3) := by decide +kernel
theorem dX3_isChangedSince_24 : decode cX3_isChangedSince 24 = .ok (.iload_n 3, 1) := by decide +kernel
theorem dX3_isChangedSince_25 : decode cX3_isChangedSince 25 = .ok (.iaload, 1) := by decide +kernel
theorem dX3_isChangedSince_26 : decode cX3_isChangedSince 26 = .ok (.iload_n 2, 1) := by decide +kernel
theorem dX3_isChangedSince_27 : decode cX3_isChangedSince 27 = .ok (.if_icmp .le 5, 3) := by decide +kernel
theorem dX3_isChangedSince_30 : decode cX3_isChangedSince 30 = .ok (.iconst 1, 1) := by decide +kernel
theorem dX3_isChangedSince_31 : decode cX3_isChangedSince 31 = .ok (.ireturn, 1) := by decide +kernel
theorem dX3_isChangedSince_32 : decode cX3_isChangedSince 32 = .ok (.iinc 3 1, 3) := by decide +kernel
theorem dX3_isChangedSince_35 : decode cX3_isChangedSince 35 = .ok (.goto (-33), 3) := by decide +kernel
theorem dX3_isChangedSince_38 : decode cX3_isChangedSince 38 = .ok (.iconst 0, 1) := by decide +kernel
theorem dX3_isChangedSince_39 : decode cX3_isChangedSince 39 = .ok (.ireturn, 1) := by decide +kernel
theorem dJ6_bitCount_0f7a4_0 : decode cJ6_bitCount_0f7a4 0 = .ok (.iload_n 0, 1) := by decide +kernel
theorem dJ6_bitCount_0f7a4_1 : decode cJ6_bitCount_0f7a4 1 = .ok (.iload_n 0, 1) := by decide +kernel
theorem dJ6_bitCount_0f7a4_2 : decode cJ6_bitCount_0f7a4 2 = .ok (.iconst 1, 1) := by decide +kernel
theorem dJ6_bitCount_0f7a4_3 : decode cJ6_bitCount_0f7a4 3 = .ok (.iushr, 1) := by decide +kernel
theorem dJ6_bitCount_0f7a4_4 : decode cJ6_bitCount_0f7a4 4 = .ok (.ldc_w 265, 3) := by decide +kernel
theorem dJ6_bitCount_0f7a4_7 : decode cJ6_bitCount_0f7a4 7 = .ok (.iand, 1) := by decide +kernel
theorem dJ6_bitCount_0f7a4_8 : decode cJ6_bitCount_0f7a4 8 = .ok (.isub, 1) := by decide +kernel
theorem dJ6_bitCount_0f7a4_9 : decode cJ6_bitCount_0f7a4 9 = .ok (.istore_n 0, 1) := by decide +kernel
theorem dJ6_bitCount_0f7a4_10 : decode cJ6_bitCount_0f7a4 10 = .ok (.iload_n 0, 1) := by decide +kernel
theorem dJ6_bitCount_0f7a4_11 : decode cJ6_bitCount_0f7a4 11 = .ok (.ldc_w 266, 3) := by decide +kernel
theorem dJ6_bitCount_0f7a4_14 : decode cJ6_bitCount_0f7a4 14 = .ok (.iand, 1) := by decide +kernel
theorem dJ6_bitCount_0f7a4_15 : decode cJ6_bitCount_0f7a4 15 = .ok (.iload_n 0, 1) := by decide +kernel
theorem dJ6_bitCount_0f7a4_16 : decode cJ6_bitCount_0f7a4 16 = .ok (.iconst 2, 1) := by decide +kernel
theorem dJ6_bitCount_0f7a4_17 : decode cJ6_bitCount_0f7a4 17 = .ok (.iushr, 1) := by decide +kernel
theorem dJ6_bitCount_0f7a4_18 : decode cJ6_bitCount_0f7a4 18 = .ok (.ldc_w 266, 3) := by decide +kernel
theorem dJ6_bitCount_0f7a4_21 : decode cJ6_bitCount_0f7a4 21 = .ok (.iand, 1) := by decide +kernel
theorem dJ6_bitCount_0f7a4_22 : decode cJ6_bitCount_0f7a4 22 = .ok (.iadd, 1) := by decide +kernel
theorem dJ6_bitCount_0f7a4_23 : decode cJ6_bitCount_0f7a4 23 = .ok (.istore_n 0, 1) := by decide +kernel
theorem dJ6_bitCount_0f7a4_24 : decode cJ6_bitCount_0f7a4 24 = .ok (.iload_n 0, 1) := by decide +kernel
theorem dJ6_bitCount_0f7a4_25 : decode cJ6_bitCount_0f7a4 25 = .ok (.iload_n 0, 1) := by decide +kernel
theorem dJ6_bitCount_0f7a4_26 : decode cJ6_bitCount_0f7a4 26 = .ok (.iconst 4, 1) := by decide +kernel
theorem dJ6_bitCount_0f7a4_27 : decode cJ6_bitCount_0f7a4 27 = .ok (.iushr, 1) := by decide +kernel
theorem dJ6_bitCount_0f7a4_28 : decode cJ6_bitCount_0f7a4 28 = .ok (.iadd, 1) := by decide +kernel
theorem dJ6_bitCount_0f7a4_29 : decode cJ6_bitCount_0f7a4 29 = .ok (.ldc_w 267, 3) := by decide +kernel
theorem dJ6_bitCount_0f7a4_32 : decode cJ6_bitCount_0f7a4 32 = .ok (.iand, 1) := by decide +kernel
theorem dJ6_bitCount_0f7a4_33 : decode cJ6_bitCount_0f7a4 33 = .ok (.istore_n 0, 1) := by decide +kernel
theorem dJ6_bitCount_0f7a4_34 : decode cJ6_bitCount_0f7a4 34 = .ok (.iload_n 0, 1) := by decide +kernel
theorem dJ6_bitCount_0f7a4_35 : decode cJ6_bitCount_0f7a4 35 = .ok (.iload_n 0, 1) := by decide +kernel
theorem dJ6_bitCount_0f7a4_36 : decode cJ6_bitCount_0f7a4 36 = .ok (.bipush 8, 2) := by decide +kernel
theorem dJ6_bitCount_0f7a4_38 : decode cJ6_bitCount_0f7a4 38 = .ok (.iushr, 1) := by decide +kernel
theorem dJ6_bitCount_0f7a4_39 : decode cJ6_bitCount_0f7a4 39 = .ok (.iadd, 1) := by decide +kernel
theorem dJ6_bitCount_0f7a4_40 : decode cJ6_bitCount_0f7a4 40 = .ok (.istore_n 0, 1) := by decide +kernel
theorem dJ6_bitCount_0f7a4_41 : decode cJ6_bitCount_0f7a4 41 = .ok (.iload_n 0, 1) := by decide +kernel
theorem dJ6_bitCount_0f7a4_42 : decode cJ6_bitCount_0f7a4 42 = .ok (.iload_n 0, 1) := by decide +kernel
theorem dJ6_bitCount_0f7a4_43 : decode cJ6_bitCount_0f7a4 43 = .ok (.bipush 16, 2) := by decide +kernel
theorem dJ6_bitCount_0f7a4_45 : decode cJ6_bitCount_0f7a4 45 = .ok (.iushr, 1) := by decide +kernel
theorem dJ6_bitCount_0f7a4_46 : decode cJ6_bitCount_0f7a4 46 = .ok (.iadd, 1) := by decide +kernel
theorem dJ6_bitCount_0f7a4_47 : decode cJ6_bitCount_0f7a4 47 = .ok (.istore_n 0, 1) := by decide +kernel
theorem dJ6_bitCount_0f7a4_48 : decode cJ6_bitCount_0f7a4 48 = .ok (.iload_n 0, 1) := by decide +kernel
theorem dJ6_bitCount_0f7a4_49 : decode cJ6_bitCount_0f7a4 49 = .ok (.bipush 63, 2) := by decide +kernel
theorem dJ6_bitCount_0f7a4_51 : decode cJ6_bitCount_0f7a4 51 = .ok (.iand, 1) := by decide +kernel
theorem dJ6_bitCount_0f7a4_52 : decode cJ6_bitCount_0f7a4 52 = .ok (.ireturn, 1) := by decide +kernel
theorem dJ13_bitCount_95d88_0 : decode cJ13_bitCount_95d88 0 = .ok (.lload_n 0, 1) := by decide +kernel
theorem dJ13_bitCount_95d88_1 : decode cJ13_bitCount_95d88 1 = .ok (.lload_n 0, 1) := by decide +kernel
theorem dJ13_bitCount_95d88_2 : decode cJ13_bitCount_95d88 2 = .ok (.iconst 1, 1) := by decide +kernel
theorem dJ13_bitCount_95d88_3 : decode cJ13_bitCount_95d88 3 = .ok (.lushr, 1) := by decide +kernel
theorem dJ13_bitCount_95d88_4 : decode cJ13_bitCount_95d88 4 = .ok (.ldc2_w 314, 3) := by decide +kernel
theorem dJ13_bitCount_95d88_7 : decode cJ13_bitCount_95d88 7 = .ok (.land, 1) := by decide +kernel
theorem dJ13_bitCount_95d88_8 : decode cJ13_bitCount_95d88 8 = .ok (.lsub, 1) := by decide +kernel
theorem dJ13_bitCount_95d88_9 : decode cJ13_bitCount_95d88 9 = .ok (.lstore_n 0, 1) := by decide +kernel
theorem dJ13_bitCount_95d88_10 : decode cJ13_bitCount_95d88 10 = .ok (.lload_n 0, 1) := by decide +kernel
theorem dJ13_bitCount_95d88_11 : decode cJ13_bitCount_95d88 11 = .ok (.ldc2_w 316, 3) := by decide +kernel
theorem dJ13_bitCount_95d88_14 : decode cJ13_bitCount_95d88 14 = .ok (.land, 1) := by decide +kernel
theorem dJ13_bitCount_95d88_15 : decode cJ13_bitCount_95d88 15 = .ok (.lload_n 0, 1) := by decide +kernel
theorem dJ13_bitCount_95d88_16 : decode cJ13_bitCount_95d88 16 = .ok (.iconst 2, 1) := by decide +kernel
theorem dJ13_bitCount_95d88_17 : decode cJ13_bitCount_95d88 17 = .ok (.lushr, 1) := by decide +kernel
theorem dJ13_bitCount_95d88_18 : decode cJ13_bitCount_95d88 18 = .ok (.ldc2_w 316, 3) := by decide +kernel
theorem dJ13_bitCount_95d88_21 : decode cJ13_bitCount_95d88 21 = .ok (.land, 1) := by decide +kernel
theorem dJ13_bitCount_95d88_22 : decode cJ13_bitCount_95d88 22 = .ok (.ladd, 1) := by decide +kernel
theorem dJ13_bitCount_95d88_23 : decode cJ13_bitCount_95d88 23 = .ok (.lstore_n 0, 1) := by decide +kernel
theorem dJ13_bitCount_95d88_24 : decode cJ13_bitCount_95d88 24 = .ok (.lload_n 0, 1) := by decide +kernel
theorem dJ13_bitCount_95d88_25 : decode cJ13_bitCount_95d88 25 = .ok (.lload_n 0, 1) := by decide +kernel
theorem dJ13_bitCount_95d88_26 : decode cJ13_bitCount_95d88 26 = .ok (.iconst 4, 1) := by decide +kernel
theorem dJ13_bitCount_95d88_27 : decode cJ13_bitCount_95d88 27 = .ok (.lushr, 1) := by decide +kernel
theorem dJ13_bitCount_95d88_28 : decode cJ13_bitCount_95d88 28 = .ok (.ladd, 1) := by decide +kernel
theorem dJ13_bitCount_95d88_29 : decode cJ13_bitCount_95d88 29 = .ok (.ldc2_w 318, 3) := by decide +kernel
theorem dJ13_bitCount_95d88_32 : decode cJ13_bitCount_95d88 32 = .ok (.land, 1) := by decide +kernel
theorem dJ13_bitCount_95d88_33 : decode cJ13_bitCount_95d88 33 = .ok (.lstore_n 0, 1) := by decide +kernel
theorem dJ13_bitCount_95d88_34 : decode cJ13_bitCount_95d88 34 = .ok (.lload_n 0, 1) := by decide +kernel
theorem dJ13_bitCount_95d88_35 : decode cJ13_bitCount_95d88 35 = .ok (.lload_n 0, 1) := by decide +kernel
theorem dJ13_bitCount_95d88_36 : decode cJ13_bitCount_95d88 36 = .ok (.bipush 8, 2) := by decide +kernel
theorem dJ13_bitCount_95d88_38 : decode cJ13_bitCount_95d88 38 = .ok (.lushr, 1) := by decide +kernel
theorem dJ13_bitCount_95d88_39 : decode cJ13_bitCount_95d88 39 = .ok (.ladd, 1) := by decide +kernel
theorem dJ13_bitCount_95d88_40 : decode cJ13_bitCount_95d88 40 = .ok (.lstore_n 0, 1) := by decide +kernel
theorem dJ13_bitCount_95d88_41 : decode cJ13_bitCount_95d88 41 = .ok (.lload_n 0, 1) := by decide +kernel
theorem dJ13_bitCount_95d88_42 : decode cJ13_bitCount_95d88 42 = .ok (.lload_n 0, 1) := by decide +kernel
theorem dJ13_bitCount_95d88_43 : decode cJ13_bitCount_95d88 43 = .ok (.bipush 16, 2) := by decide +kernel
theorem dJ13_bitCount_95d88_45 : decode cJ13_bitCount_95d88 45 = .ok (.lushr, 1) := by decide +kernel
theorem dJ13_bitCount_95d88_46 : decode cJ13_bitCount_95d88 46 = .ok (.ladd, 1) := by decide +kernel
theorem dJ13_bitCount_95d88_47 : decode cJ13_bitCount_95d88 47 = .ok (.lstore_n 0, 1) := by decide +kernel
theorem dJ13_bitCount_95d88_48 : decode cJ13_bitCount_95d88 48 = .ok (.lload_n 0, 1) := by decide +kernel
theorem dJ13_bitCount_95d88_49 : decode cJ13_bitCount_95d88 49 = .ok (.lload_n 0, 1) := by decide +kernel
theorem dJ13_bitCount_95d88_50 : decode cJ13_bitCount_95d88 50 = .ok (.bipush 32, 2) := by decide +kernel
theorem dJ13_bitCount_95d88_52 : decode cJ13_bitCount_95d88 52 = .ok (.lushr, 1) := by decide +kernel
theorem dJ13_bitCount_95d88_53 : decode cJ13_bitCount_95d88 53 = .ok (.ladd, 1) := by decide +kernel
theorem dJ13_bitCount_95d88_54 : decode cJ13_bitCount_95d88 54 = .ok (.lstore_n 0, 1) := by decide +kernel
theorem dJ13_bitCount_95d88_55 : decode cJ13_bitCount_95d88 55 = .ok (.lload_n 0, 1) := by decide +kernel
theorem dJ13_bitCount_95d88_56 : decode cJ13_bitCount_95d88 56 = .ok (.l2i, 1) := by decide +kernel
theorem dJ13_bitCount_95d88_57 : decode cJ13_bitCount_95d88 57 = .ok (.bipush 127, 2) := by decide +kernel
theorem dJ13_bitCount_95d88_59 : decode cJ13_bitCount_95d88 59 = .ok (.iand, 1) := by decide +kernel
theorem dJ13_bitCount_95d88_60 : decode cJ13_bitCount_95d88 60 = .ok (.ireturn, 1) := by decide +kernel
theorem dJ9_max_7cf53_0 : decode cJ9_max_7cf53 0 = .ok (.iload_n 0, 1) := by decide +kernel
theorem dJ9_max_7cf53_1 : decode cJ9_max_7cf53 1 = .ok (.iload_n 1, 1) := by decide +kernel
theorem dJ9_max_7cf53_2 : decode cJ9_max_7cf53 2 = .ok (.if_icmp .lt 7, 3) := by decide +kernel
theorem dJ9_max_7cf53_5 : decode cJ9_max_7cf53 5 = .ok (.iload_n 0, 1) := by decide +kernel
theorem dJ9_max_7cf53_6 : decode cJ9_max_7cf53 6 = .ok (.goto 4, 3) := by decide +kernel
theorem dJ9_max_7cf53_9 : decode cJ9_max_7cf53 9 = .ok (.iload_n 1, 1) := by decide +kernel
theorem dJ9_max_7cf53_10 : decode cJ9_max_7cf53 10 = .ok (.ireturn, 1) := by decide +kernel
theorem dJ9_min_7cf53_0 : decode cJ9_min_7cf53 0 = .ok (.iload_n 0, 1) := by decide +kernel
theorem dJ9_min_7cf53_1 : decode cJ9_min_7cf53 1 = .ok (.iload_n 1, 1) := by decide +kernel
theorem dJ9_min_7cf53_2 : decode cJ9_min_7cf53 2 = .ok (.if_icmp .gt 7, 3) := by decide +kernel
theorem dJ9_min_7cf53_5 : decode cJ9_min_7cf53 5 = .ok (.iload_n 0, 1) := by decide +kernel
theorem dJ9_min_7cf53_6 : decode cJ9_min_7cf53 6 = .ok (.goto 4, 3) := by decide +kernel
theorem dJ9_min_7cf53_9 : decode cJ9_min_7cf53 9 = .ok (.iload_n 1, 1) := by decide +kernel
theorem dJ9_min_7cf53_10 : decode cJ9_min_7cf53 10 = .ok (.ireturn, 1) := by decide +kernel
end
section
theorem dX4_init_0 : decode cX4_init 0 = .ok (.aload_n 0, 1) := by decide +kernel
theorem dX4_init_1 : decode cX4_init 1 = .ok (.invokespecial 1, 3) := by decide +kernel
theorem dX4_init_4 : decode cX4_init 4 = .ok (.aload_n 0, 1) := by decide +kernel
theorem dX4_init_5 : decode cX4_init 5 = .ok (.new 7, 3) := by decide +kernel
theorem dX4_init_8 : decode cX4_init 8 = .ok (.dup, 1) := by decide +kernel
theorem dX4_init_9 : decode cX4_init 9 = .ok (.invokespecial 9, 3) := by decide +kernel
theorem dX4_init_12 : decode cX4_init 12 = .ok (.putfield 10, 3) := by decide +kernel
theorem dX4_init_15 : decode cX4_init 15 = .ok (.aload_n 0, 1) := by decide +kernel
theorem dX4_init_16 : decode cX4_init 16 = .ok (.new 16, 3) := by decide +kernel
theorem dX4_init_19 : decode cX4_init 19 = .ok (.dup, 1) := by decide +kernel
theorem dX4_init_20 : decode cX4_init 20 = .ok (.invokespecial 18, 3) := by decide +kernel
theorem dX4_init_23 : decode cX4_init 23 = .ok (.putfield 19, 3) := by decide +kernel
theorem dX4_init_26 : decode cX4_init 26 = .ok (.aload_n 0, 1) := by decide +kernel
theorem dX4_init_27 : decode cX4_init 27 = .ok (.bipush 24, 2) := by decide +kernel
theorem dX4_init_29 : decode cX4_init 29 = .ok (.anewarray 23, 3) := by decide +kernel
theorem dX4_init_32 : decode cX4_init 32 = .ok (.putfield 25, 3) := by decide +kernel
theorem dX4_init_35 : decode cX4_init 35 = .ok (.aload_n 0, 1) := by decide +kernel
theorem dX4_init_36 : decode cX4_init 36 = .ok (.bipush 30, 2) := by decide +kernel
theorem dX4_init_38 : decode cX4_init 38 = .ok (.anewarray 29, 3) := by decide +kernel
theorem dX4_init_41 : decode cX4_init 41 = .ok (.putfield 31, 3) := by decide +kernel
theorem dX4_init_44 : decode cX4_init 44 = .ok (.aload_n 0, 1) := by decide +kernel
theorem dX4_init_45 : decode cX4_init 45 = .ok (.iconst 0, 1) := by decide +kernel
theorem dX4_init_46 : decode cX4_init 46 = .ok (.putfield 35, 3) := by decide +kernel
theorem dX4_init_49 : decode cX4_init 49 = .ok (.aload_n 0, 1) := by decide +kernel
theorem dX4_init_50 : decode cX4_init 50 = .ok (.iconst 0, 1) := by decide +kernel
theorem dX4_init_51 : decode cX4_init 51 = .ok (.putfield 39, 3) := by decide +kernel
theorem dX4_init_54 : decode cX4_init 54 = .ok (.aload_n 0, 1) := by decide +kernel
theorem dX4_init_55 : decode cX4_init 55 = .ok (.iconst 2, 1) := by decide +kernel
theorem dX4_init_56 : decode cX4_init 56 = .ok (.putfield 42, 3) := by decide +kernel
theorem dX4_init_59 : decode cX4_init 59 = .ok (.aload_n 0, 1) := by decide +kernel
theorem dX4_init_60 : decode cX4_init 60 = .ok (.bipush 20, 2) := by decide +kernel
theorem dX4_init_62 : decode cX4_init 62 = .ok (.putfield 45, 3) := by decide +kernel
theorem dX4_init_65 : decode cX4_init 65 = .ok (.return_, 1) := by decide +kernel
theorem dX4_fold_0 : decode cX4_fold 0 = .ok (.iload_n 1, 1) := by decide +kernel
theorem dX4_fold_1 : decode cX4_fold 1 = .ok (.invokestatic 48, 3) := by decide +kernel
theorem dX4_fold_4 : decode cX4_fold 4 = .ok (.ifCond .eq 10, 3) := by decide +kernel
theorem dX4_fold_7 : decode cX4_fold 7 = .ok (.iload_n 2, 1) := by decide +kernel
theorem dX4_fold_8 : decode cX4_fold 8 = .ok (.invokestatic 48, 3) := by decide +kernel
theorem dX4_fold_11 : decode cX4_fold 11 = .ok (.ifCond .ne 7, 3) := by decide +kernel
theorem dX4_fold_14 : decode cX4_fold 14 = .ok (.sipush (-1002), 3) := by decide +kernel
theorem dX4_fold_17 : decode cX4_fold 17 = .ok (.ireturn, 1) := by decide +kernel
theorem dX4_fold_18 : decode cX4_fold 18 = .ok (.aload_n 0, 1) := by decide +kernel
theorem dX4_fold_19 : decode cX4_fold 19 = .ok (.getfield 10, 3) := by decide +kernel
theorem dX4_fold_22 : decode cX4_fold 22 = .ok (.iload_n 1, 1) := by decide +kernel
theorem dX4_fold_23 : decode cX4_fold 23 = .ok (.invokevirtual 52, 3) := by decide +kernel
theorem dX4_fold_26 : decode cX4_fold 26 = .ok (.istore_n 3, 1) := by decide +kernel
theorem dX4_fold_27 : decode cX4_fold 27 = .ok (.aload_n 0, 1) := by decide +kernel
theorem dX4_fold_28 : decode cX4_fold 28 = .ok (.getfield 10, 3) := by decide +kernel
theorem dX4_fold_31 : decode cX4_fold 31 = .ok (.iload_n 1, 1) := by decide +kernel
theorem dX4_fold_32 : decode cX4_fold 32 = .ok (.iload_n 2, 1) := by decide +kernel
theorem dX4_fold_33 : decode cX4_fold 33 = .ok (.invokevirtual 56, 3) := by decide +kernel
theorem dX4_fold_36 : decode cX4_fold 36 = .ok (.aload_n 0, 1) := by decide +kernel
theorem dX4_fold_37 : decode cX4_fold 37 = .ok (.invokevirtual 60, 3) := by decide +kernel
theorem dX4_fold_40 : decode cX4_fold 40 = .ok (.iload_n 3, 1) := by decide +kernel
theorem dX4_fold_41 : decode cX4_fold 41 = .ok (.ireturn, 1) := by decide +kernel
theorem dX4_changed_0 : decode cX4_changed 0 = .ok (.aload_n 0, 1) := by decide +kernel
theorem dX4_changed_1 : decode cX4_changed 1 = .ok (.getfield 19, 3) := by decide +kernel
theorem dX4_changed_4 : decode cX4_changed 4 = .ok (.iload_n 1, 1) := by decide +kernel
theorem dX4_changed_5 : decode cX4_changed 5 = .ok (.invokevirtual 63, 3) := by decide +kernel
theorem dX4_changed_8 : decode cX4_changed 8 = .ok (.istore_n 2, 1) := by decide +kernel
theorem dX4_changed_9 : decode cX4_changed 9 = .ok (.aload_n 0, 1) := by decide +kernel
theorem dX4_changed_10 : decode cX4_changed 10 = .ok (.invokevirtual 60, 3) := by decide +kernel
theorem dX4_changed_13 : decode cX4_changed 13 = .ok (.iload_n 2, 1) := by decide +kernel
theorem dX4_changed_14 : decode cX4_changed 14 = .ok (.ireturn, 1) := by decide +kernel
theorem dX4_rule_0 : decode cX4_rule 0 = .ok (.iload_n 1, 1) := by decide +kernel
theorem dX4_rule_1 : decode cX4_rule 1 = .ok (.ifCond .ne 25, 3) := by decide +kernel
theorem dX4_rule_4 : decode cX4_rule 4 = .ok (.iload_n 2, 1) := by decide +kernel
theorem dX4_rule_5 : decode cX4_rule 5 = .ok (.iconst 0, 1) := by decide +kernel
theorem dX4_rule_6 : decode cX4_rule 6 = .ok (.bipush 10, 2) := by decide +kernel
theorem dX4_rule_8 : decode cX4_rule 8 = .ok (.invokestatic 66, 3) := by decide +kernel
theorem dX4_rule_11 : decode cX4_rule 11 = .ok (.ifCond .eq 15, 3) := by decide +kernel
theorem dX4_rule_14 : decode cX4_rule 14 = .ok (.aload_n 0, 1) := by decide +kernel
theorem dX4_rule_15 : decode cX4_rule 15 = .ok (.getfield 42, 3) := by decide +kernel
theorem dX4_rule_18 : decode cX4_rule 18 = .ok (.istore_n 3, 1) := by decide +kernel
theorem dX4_rule_19 : decode cX4_rule 19 = .ok (.aload_n 0, 1) := by decide +kernel
theorem dX4_rule_20 : decode cX4_rule 20 = .ok (.iload_n 2, 1) := by decide +kernel
theorem dX4_rule_21 : decode cX4_rule 21 = .ok (.putfield 42, 3) := by decide +kernel
theorem dX4_rule_24 : decode cX4_rule 24 = .ok (.iload_n 3, 1) := by decide +kernel
theorem dX4_rule_25 : decode cX4_rule 25 = .ok (.ireturn, 1) := by decide +kernel
theorem dX4_rule_26 : decode cX4_rule 26 = .ok (.iload_n 1, 1) := by decide +kernel
theorem dX4_rule_27 : decode cX4_rule 27 = .ok (.iconst 1, 1) := by decide +kernel
theorem dX4_rule_28 : decode cX4_rule 28 = .ok (.if_icmp .ne 26, 3) := by decide +kernel
theorem dX4_rule_31 : decode cX4_rule 31 = .ok (.iload_n 2, 1) := by decide +kernel
theorem dX4_rule_32 : decode cX4_rule 32 = .ok (.iconst 0, 1) := by decide +kernel
theorem dX4_rule_33 : decode cX4_rule 33 = .ok (.sipush 200, 3) := by decide +kernel
theorem dX4_rule_36 : decode cX4_rule 36 = .ok (.invokestatic 66, 3) := by decide +kernel
theorem dX4_rule_39 : decode cX4_rule 39 = .ok (.ifCond .eq 15, 3) := by decide +kernel
theorem dX4_rule_42 : decode cX4_rule 42 = .ok (.aload_n 0, 1) := by decide +kernel
theorem dX4_rule_43 : decode cX4_rule 43 = .ok (.getfield 45, 3) := by decide +kernel
theorem dX4_rule_46 : decode cX4_rule 46 = .ok (.istore_n 3, 1) := by decide +kernel
theorem dX4_rule_47 : decode cX4_rule 47 = .ok (.aload_n 0, 1) := by decide +kernel
theorem dX4_rule_48 : decode cX4_rule 48 = .ok (.iload_n 2, 1) := by decide +kernel
theorem dX4_rule_49 : decode cX4_rule 49 = .ok (.putfield 45, 3) := by decide +kernel
theorem dX4_rule_52 : decode cX4_rule 52 = .ok (.iload_n 3, 1) := by decide +kernel
theorem dX4_rule_53 : decode cX4_rule 53 = .ok (.ireturn, 1) := by decide +kernel
theorem dX4_rule_54 : decode cX4_rule 54 = .ok (.sipush (-1002), 3) := by decide +kernel
theorem dX4_rule_57 : decode cX4_rule 57 = .ok (.ireturn, 1) := by decide +kernel
theorem dX4_answer_0 : decode cX4_answer 0 = .ok (.lload_n 1, 1) := by decide +kernel
theorem dX4_answer_1 : decode cX4_answer 1 = .ok (.invokestatic 70, 3) := by decide +kernel
theorem dX4_answer_4 : decode cX4_answer 4 = .ok (.ifCond .eq 41, 3) := by decide +kernel
theorem dX4_answer_7 : decode cX4_answer 7 = .ok (.iload_n 3, 1) := by decide +kernel
theorem dX4_answer_8 : decode cX4_answer 8 = .ok (.iconst 0, 1) := by decide +kernel
theorem dX4_answer_9 : decode cX4_answer 9 = .ok (.sipush 9999, 3) := by decide +kernel
theorem dX4_answer_12 : decode cX4_answer 12 = .ok (.invokestatic 66, 3) := by decide +kernel
theorem dX4_answer_15 : decode cX4_answer 15 = .ok (.ifCond .eq 30, 3) := by decide +kernel
theorem dX4_answer_18 : decode cX4_answer 18 = .ok (.iconst 0, 1) := by decide +kernel
theorem dX4_answer_19 : decode cX4_answer 19 = .ok (.iload 4, 2) := by decide +kernel
theorem dX4_answer_21 : decode cX4_answer 21 = .ok (.invokestatic 74, 3) := by decide +kernel
theorem dX4_answer_24 : decode cX4_answer 24 = .ok (.ifCond .eq 21, 3) := by decide +kernel
theorem dX4_answer_27 : decode cX4_answer 27 = .ok (.iconst 1, 1) := by decide +kernel
theorem dX4_answer_28 : decode cX4_answer 28 = .ok (.iload 5, 2) := by decide +kernel
theorem dX4_answer_30 : decode cX4_answer 30 = .ok (.invokestatic 74, 3) := by decide +kernel
theorem dX4_answer_33 : decode cX4_answer 33 = .ok (.ifCond .eq 12, 3) := by decide +kernel
theorem dX4_answer_36 : decode cX4_answer 36 = .ok (.iconst 2, 1) := by decide +kernel
theorem dX4_answer_37 : decode cX4_answer 37 = .ok (.iload 6, 2) := by decide +kernel
theorem dX4_answer_39 : decode cX4_answer 39 = .ok (.invokestatic 74, 3) := by decide +kernel
theorem dX4_answer_42 : decode cX4_answer 42 = .ok (.ifCond .ne 7, 3) := by decide +kernel
theorem dX4_answer_45 : decode cX4_answer 45 = .ok (.sipush (-1002), 3) := by decide +kernel
theorem dX4_answer_48 : decode cX4_answer 48 = .ok (.ireturn, 1) := by decide +kernel
theorem dX4_answer_49 : decode cX4_answer 49 = .ok (.aload_n 0, 1) := by decide +kernel
theorem dX4_answer_50 : decode cX4_answer 50 = .ok (.getfield 35, 3) := by decide +kernel
theorem dX4_answer_53 : decode cX4_answer 53 = .ok (.aload_n 0, 1) := by decide +kernel
theorem dX4_answer_54 : decode cX4_answer 54 = .ok (.getfield 25, 3) := by decide +kernel
theorem dX4_answer_57 : decode cX4_answer 57 = .ok (.arraylength, 1) := by decide +kernel
theorem dX4_answer_58 : decode cX4_answer 58 = .ok (.if_icmp .lt 7, 3) := by decide +kernel
theorem dX4_answer_61 : decode cX4_answer 61 = .ok (.sipush (-1004), 3) := by decide +kernel
theorem dX4_answer_64 : decode cX4_answer 64 = .ok (.ireturn, 1) := by decide +kernel
theorem dX4_answer_65 : decode cX4_answer 65 = .ok (.new 23, 3) := by decide +kernel
theorem dX4_answer_68 : decode cX4_answer 68 = .ok (.dup, 1) := by decide +kernel
theorem dX4_answer_69 : decode cX4_answer 69 = .ok (.aload_n 0, 1) := by decide +kernel
theorem dX4_answer_70 : decode cX4_answer 70 = .ok (.getfield 35, 3) := by decide +kernel
theorem dX4_answer_73 : decode cX4_answer 73 = .ok (.iconst 0, 1) := by decide +kernel
theorem dX4_answer_74 : decode cX4_answer 74 = .ok (.iload_n 3, 1) := by decide +kernel
theorem dX4_answer_75 : decode cX4_answer 75 = .ok (.invokespecial 78, 3) := by decide +kernel
theorem dX4_answer_78 : decode cX4_answer 78 = .ok (.astore 7, 2) := by decide +kernel
theorem dX4_answer_80 : decode cX4_answer 80 = .ok (.aload 7, 2) := by decide +kernel
theorem dX4_answer_82 : decode cX4_answer 82 = .ok (.lload_n 1, 1) := by decide +kernel
theorem dX4_answer_83 : decode cX4_answer 83 = .ok (.putfield 81, 3) := by decide +kernel
theorem dX4_answer_86 : decode cX4_answer 86 = .ok (.aload 7, 2) := by decide +kernel
theorem dX4_answer_88 : decode cX4_answer 88 = .ok (.iload 4, 2) := by decide +kernel
theorem dX4_answer_90 : decode cX4_answer 90 = .ok (.iload 5, 2) := by decide +kernel
theorem dX4_answer_92 : decode cX4_answer 92 = .ok (.iload 6, 2) := by decide +kernel
theorem dX4_answer_94 : decode cX4_answer 94 = .ok (.invokevirtual 85, 3) := by decide +kernel
theorem dX4_answer_97 : decode cX4_answer 97 = .ok (.aload 7, 2) := by decide +kernel
theorem dX4_answer_99 : decode cX4_answer 99 = .ok (.aload_n 0, 1) := by decide +kernel
theorem dX4_answer_100 : decode cX4_answer 100 = .ok (.getfield 19, 3) := by decide +kernel
theorem dX4_answer_103 : decode cX4_answer 103 = .ok (.invokevirtual 88, 3) := by decide +kernel
theorem dX4_answer_106 : decode cX4_answer 106 = .ok (.putfield 92, 3) := by decide +kernel
theorem dX4_answer_109 : decode cX4_answer 109 = .ok (.aload_n 0, 1) := by decide +kernel
theorem dX4_answer_110 : decode cX4_answer 110 = .ok (.aload 7, 2) := by decide +kernel
theorem dX4_answer_112 : decode cX4_answer 112 = .ok (.invokevirtual 95, 3) := by decide +kernel
theorem dX4_answer_115 : decode cX4_answer 115 = .ok (.aload 7, 2) := by decide +kernel
theorem dX4_answer_117 : decode cX4_answer 117 = .ok (.getfield 99, 3) := by decide +kernel
theorem dX4_answer_120 : decode cX4_answer 120 = .ok (.ireturn, 1) := by decide +kernel
theorem dX4_join_0 : decode cX4_join 0 = .ok (.aload_n 0, 1) := by decide +kernel
theorem dX4_join_1 : decode cX4_join 1 = .ok (.iload_n 1, 1) := by decide +kernel
theorem dX4_join_2 : decode cX4_join 2 = .ok (.invokevirtual 102, 3) := by decide +kernel
theorem dX4_join_5 : decode cX4_join 5 = .ok (.ifCond .eq 39, 3) := by decide +kernel
theorem dX4_join_8 : decode cX4_join 8 = .ok (.aload_n 0, 1) := by decide +kernel
theorem dX4_join_9 : decode cX4_join 9 = .ok (.iload_n 2, 1) := by decide +kernel
theorem dX4_join_10 : decode cX4_join 10 = .ok (.invokevirtual 102, 3) := by decide +kernel
theorem dX4_join_13 : decode cX4_join 13 = .ok (.ifCond .eq 31, 3) := by decide +kernel
theorem dX4_join_16 : decode cX4_join 16 = .ok (.iload_n 3, 1) := by decide +kernel
theorem dX4_join_17 : decode cX4_join 17 = .ok (.iconst (-1), 1) := by decide +kernel
theorem dX4_join_18 : decode cX4_join 18 = .ok (.if_icmp .eq 11, 3) := by decide +kernel
theorem dX4_join_21 : decode cX4_join 21 = .ok (.aload_n 0, 1) := by decide +kernel
theorem dX4_join_22 : decode cX4_join 22 = .ok (.iload_n 3, 1) := by decide +kernel
theorem dX4_join_23 : decode cX4_join 23 = .ok (.invokevirtual 102, 3) := by decide +kernel
theorem dX4_join_26 : decode cX4_join 26 = .ok (.ifCond .eq 18, 3) := by decide +kernel
theorem dX4_join_29 : decode cX4_join 29 = .ok (.iload 4, 2) := by decide +kernel
theorem dX4_join_31 : decode cX4_join 31 = .ok (.iconst (-1), 1) := by decide +kernel
theorem dX4_join_32 : decode cX4_join 32 = .ok (.if_icmp .eq 16, 3) := by decide +kernel
theorem dX4_join_35 : decode cX4_join 35 = .ok (.aload_n 0, 1) := by decide +kernel
theorem dX4_join_36 : decode cX4_join 36 = .ok (.iload 4, 2) := by decide +kernel
theorem dX4_join_38 : decode cX4_join 38 = .ok (.invokevirtual 102, 3) := by decide +kernel
theorem dX4_join_41 : decode cX4_join 41 = .ok (.ifCond .ne 7, 3) := by decide +kernel
theorem dX4_join_44 : decode cX4_join 44 = .ok (.sipush (-1001), 3) := by decide +kernel
theorem dX4_join_47 : decode cX4_join 47 = .ok (.ireturn, 1) := by decide +kernel
theorem dX4_join_48 : decode cX4_join 48 = .ok (.iload_n 3, 1) := by decide +kernel
theorem dX4_join_49 : decode cX4_join 49 = .ok (.iconst (-1), 1) := by decide +kernel
theorem dX4_join_50 : decode cX4_join 50 = .ok (.if_icmp .ne 7, 3) := by decide +kernel
theorem dX4_join_53 : decode cX4_join 53 = .ok (.iconst 2, 1) := by decide +kernel
theorem dX4_join_54 : decode cX4_join 54 = .ok (.goto 14, 3) := by decide +kernel
theorem dX4_join_57 : decode cX4_join 57 = .ok (.iload 4, 2) := by decide +kernel
theorem dX4_join_59 : decode cX4_join 59 = .ok (.iconst (-1), 1) := by decide +kernel
theorem dX4_join_60 : decode cX4_join 60 = .ok (.if_icmp .ne 7, 3) := by decide +kernel
theorem dX4_join_63 : decode cX4_join 63 = .ok (.iconst 3, 1) := by decide +kernel
theorem dX4_join_64 : decode cX4_join 64 = .ok (.goto 4, 3) := by decide +kernel
theorem dX4_join_67 : decode cX4_join 67 = .ok (.iconst 4, 1) := by decide +kernel
theorem dX4_join_68 : decode cX4_join 68 = .ok (.istore 5, 2) := by decide +kernel
theorem dX4_join_70 : decode cX4_join 70 = .ok (.iload_n 1, 1) := by decide +kernel
theorem dX4_join_71 : decode cX4_join 71 = .ok (.invokestatic 105, 3) := by decide +kernel
theorem dX4_join_74 : decode cX4_join 74 = .ok (.iload_n 2, 1) := by decide +kernel
theorem dX4_join_75 : decode cX4_join 75 = .ok (.invokestatic 105, 3) := by decide +kernel
theorem dX4_join_78 : decode cX4_join 78 = .ok (.ior, 1) := by decide +kernel
theorem dX4_join_79 : decode cX4_join 79 = .ok (.iload_n 3, 1) := by decide +kernel
theorem dX4_join_80 : decode cX4_join 80 = .ok (.invokestatic 105, 3) := by decide +kernel
theorem dX4_join_83 : decode cX4_join 83 = .ok (.ior, 1) := by decide +kernel
theorem dX4_join_84 : decode cX4_join 84 = .ok (.iload 4, 2) := by decide +kernel
theorem dX4_join_86 : decode cX4_join 86 = .ok (.invokestatic 105, 3) := by decide +kernel
theorem dX4_join_89 : decode cX4_join 89 = .ok (.ior, 1) := by decide +kernel
theorem dX4_join_90 : decode cX4_join 90 = .ok (.istore 6, 2) := by decide +kernel
theorem dX4_join_92 : decode cX4_join 92 = .ok (.iload_n 3, 1) := by decide +kernel
theorem dX4_join_93 : decode cX4_join 93 = .ok (.iconst (-1), 1) := by decide +kernel
theorem dX4_join_94 : decode cX4_join 94 = .ok (.if_icmp .ne 9, 3) := by decide +kernel
theorem dX4_join_97 : decode cX4_join 97 = .ok (.iload 4, 2) := by decide +kernel
theorem dX4_join_99 : decode cX4_join 99 = .ok (.iconst (-1), 1) := by decide +kernel
theorem dX4_join_100 : decode cX4_join 100 = .ok (.if_icmp .ne 22, 3) := by decide +kernel
theorem dX4_join_103 : decode cX4_join 103 = .ok (.iload 6, 2) := by decide +kernel
theorem dX4_join_105 : decode cX4_join 105 = .ok (.invokestatic 108, 3) := by decide +kernel
theorem dX4_join_108 : decode cX4_join 108 = .ok (.iload 5, 2) := by decide +kernel
theorem dX4_join_110 : decode cX4_join 110 = .ok (.if_icmp .ne 12, 3) := by decide +kernel
theorem dX4_join_113 : decode cX4_join 113 = .ok (.aload_n 0, 1) := by decide +kernel
theorem dX4_join_114 : decode cX4_join 114 = .ok (.iload 6, 2) := by decide +kernel
theorem dX4_join_116 : decode cX4_join 116 = .ok (.invokevirtual 113, 3) := by decide +kernel
theorem dX4_join_119 : decode cX4_join 119 = .ok (.ifCond .ne 7, 3) := by decide +kernel
theorem dX4_join_122 : decode cX4_join 122 = .ok (.sipush (-1003), 3) := by decide +kernel
theorem dX4_join_125 : decode cX4_join 125 = .ok (.ireturn, 1) := by decide +kernel
theorem dX4_join_126 : decode cX4_join 126 = .ok (.aload_n 0, 1) := by decide +kernel
theorem dX4_join_127 : decode cX4_join 127 = .ok (.getfield 35, 3) := by decide +kernel
theorem dX4_join_130 : decode cX4_join 130 = .ok (.aload_n 0, 1) := by decide +kernel
theorem dX4_join_131 : decode cX4_join 131 = .ok (.getfield 25, 3) := by decide +kernel
theorem dX4_join_134 : decode cX4_join 134 = .ok (.arraylength, 1) := by decide +kernel
theorem dX4_join_135 : decode cX4_join 135 = .ok (.if_icmp .lt 7, 3) := by decide +kernel
theorem dX4_join_138 : decode cX4_join 138 = .ok (.sipush (-1004), 3) := by decide +kernel
theorem dX4_join_141 : decode cX4_join 141 = .ok (.ireturn, 1) := by decide +kernel
theorem dX4_join_142 : decode cX4_join 142 = .ok (.new 23, 3) := by decide +kernel
theorem dX4_join_145 : decode cX4_join 145 = .ok (.dup, 1) := by decide +kernel
theorem dX4_join_146 : decode cX4_join 146 = .ok (.aload_n 0, 1) := by decide +kernel
theorem dX4_join_147 : decode cX4_join 147 = .ok (.getfield 35, 3) := by decide +kernel
theorem dX4_join_150 : decode cX4_join 150 = .ok (.iconst 1, 1) := by decide +kernel
theorem dX4_join_151 : decode cX4_join 151 = .ok (.iconst (-1), 1) := by decide +kernel
theorem dX4_join_152 : decode cX4_join 152 = .ok (.invokespecial 78, 3) := by decide +kernel
theorem dX4_join_155 : decode cX4_join 155 = .ok (.astore 7, 2) := by decide +kernel
theorem dX4_join_157 : decode cX4_join 157 = .ok (.aload 7, 2) := by decide +kernel
theorem dX4_join_159 : decode cX4_join 159 = .ok (.iload_n 1, 1) := by decide +kernel
theorem dX4_join_160 : decode cX4_join 160 = .ok (.iload_n 2, 1) := by decide +kernel
theorem dX4_join_161 : decode cX4_join 161 = .ok (.iload_n 3, 1) := by decide +kernel
theorem dX4_join_162 : decode cX4_join 162 = .ok (.iload 4, 2) := by decide +kernel
theorem dX4_join_164 : decode cX4_join 164 = .ok (.invokevirtual 116, 3) := by decide +kernel
theorem dX4_join_167 : decode cX4_join 167 = .ok (.aload_n 0, 1) := by decide +kernel
theorem dX4_join_168 : decode cX4_join 168 = .ok (.aload 7, 2) := by decide +kernel
theorem dX4_join_170 : decode cX4_join 170 = .ok (.invokevirtual 95, 3) := by decide +kernel
theorem dX4_join_173 : decode cX4_join 173 = .ok (.aload 7, 2) := by decide +kernel
theorem dX4_join_175 : decode cX4_join 175 = .ok (.getfield 99, 3) := by decide +kernel
theorem dX4_join_178 : decode cX4_join 178 = .ok (.ireturn, 1) := by decide +kernel
theorem dX4_bind_0 : decode cX4_bind 0 = .ok (.aload_n 0, 1) := by decide +kernel
theorem dX4_bind_1 : decode cX4_bind 1 = .ok (.iload_n 1, 1) := by decide +kernel
theorem dX4_bind_2 : decode cX4_bind 2 = .ok (.invokevirtual 120, 3) := by decide +kernel
theorem dX4_bind_5 : decode cX4_bind 5 = .ok (.astore_n 3, 1) := by decide +kernel
theorem dX4_bind_6 : decode cX4_bind 6 = .ok (.aload_n 3, 1) := by decide +kernel
theorem dX4_bind_7 : decode cX4_bind 7 = .ok (.ifnonnull 7, 3) := by decide +kernel
theorem dX4_bind_10 : decode cX4_bind 10 = .ok (.sipush (-1001), 3) := by decide +kernel
theorem dX4_bind_13 : decode cX4_bind 13 = .ok (.ireturn, 1) := by decide +kernel
theorem dX4_bind_14 : decode cX4_bind 14 = .ok (.iload_n 2, 1) := by decide +kernel
theorem dX4_bind_15 : decode cX4_bind 15 = .ok (.iconst 0, 1) := by decide +kernel
theorem dX4_bind_16 : decode cX4_bind 16 = .ok (.sipush 1023, 3) := by decide +kernel
theorem dX4_bind_19 : decode cX4_bind 19 = .ok (.invokestatic 66, 3) := by decide +kernel
theorem dX4_bind_22 : decode cX4_bind 22 = .ok (.ifCond .ne 7, 3) := by decide +kernel
theorem dX4_bind_25 : decode cX4_bind 25 = .ok (.sipush (-1002), 3) := by decide +kernel
theorem dX4_bind_28 : decode cX4_bind 28 = .ok (.ireturn, 1) := by decide +kernel
theorem dX4_bind_29 : decode cX4_bind 29 = .ok (.aload_n 3, 1) := by decide +kernel
theorem dX4_bind_30 : decode cX4_bind 30 = .ok (.invokevirtual 124, 3) := by decide +kernel
theorem dX4_bind_33 : decode cX4_bind 33 = .ok (.ifCond .eq 7, 3) := by decide +kernel
theorem dX4_bind_36 : decode cX4_bind 36 = .ok (.sipush (-1003), 3) := by decide +kernel
theorem dX4_bind_39 : decode cX4_bind 39 = .ok (.ireturn, 1) := by decide +kernel
theorem dX4_bind_40 : decode cX4_bind 40 = .ok (.aload_n 3, 1) := by decide +kernel
theorem dX4_bind_41 : decode cX4_bind 41 = .ok (.getfield 127, 3) := by decide +kernel
theorem dX4_bind_44 : decode cX4_bind 44 = .ok (.istore 4, 2) := by decide +kernel
theorem dX4_bind_46 : decode cX4_bind 46 = .ok (.aload_n 3, 1) := by decide +kernel
theorem dX4_bind_47 : decode cX4_bind 47 = .ok (.iload_n 2, 1) := by decide +kernel
theorem dX4_bind_48 : decode cX4_bind 48 = .ok (.putfield 127, 3) := by decide +kernel
theorem dX4_bind_51 : decode cX4_bind 51 = .ok (.aload_n 0, 1) := by decide +kernel
theorem dX4_bind_52 : decode cX4_bind 52 = .ok (.invokevirtual 60, 3) := by decide +kernel
theorem dX4_bind_55 : decode cX4_bind 55 = .ok (.iload 4, 2) := by decide +kernel
theorem dX4_bind_57 : decode cX4_bind 57 = .ok (.ireturn, 1) := by decide +kernel
theorem dX4_confirm_0 : decode cX4_confirm 0 = .ok (.aload_n 0, 1) := by decide +kernel
theorem dX4_confirm_1 : decode cX4_confirm 1 = .ok (.iload_n 1, 1) := by decide +kernel
theorem dX4_confirm_2 : decode cX4_confirm 2 = .ok (.invokevirtual 120, 3) := by decide +kernel
theorem dX4_confirm_5 : decode cX4_confirm 5 = .ok (.astore_n 2, 1) := by decide +kernel
theorem dX4_confirm_6 : decode cX4_confirm 6 = .ok (.aload_n 2, 1) := by decide +kernel
theorem dX4_confirm_7 : decode cX4_confirm 7 = .ok (.ifnonnull 7, 3) := by decide +kernel
theorem dX4_confirm_10 : decode cX4_confirm 10 = .ok (.sipush (-1001), 3) := by decide +kernel
theorem dX4_confirm_13 : decode cX4_confirm 13 = .ok (.ireturn, 1) := by decide +kernel
theorem dX4_confirm_14 : decode cX4_confirm 14 = .ok (.aload_n 2, 1) := by decide +kernel
theorem dX4_confirm_15 : decode cX4_confirm 15 = .ok (.invokevirtual 124, 3) := by decide +kernel
theorem dX4_confirm_18 : decode cX4_confirm 18 = .ok (.ifCond .eq 7, 3) := by decide +kernel
theorem dX4_confirm_21 : decode cX4_confirm 21 = .ok (.sipush (-1003), 3) := by decide +kernel
theorem dX4_confirm_24 : decode cX4_confirm 24 = .ok (.ireturn, 1) := by decide +kernel
theorem dX4_confirm_25 : decode cX4_confirm 25 = .ok (.aload_n 2, 1) := by decide +kernel
theorem dX4_confirm_26 : decode cX4_confirm 26 = .ok (.invokevirtual 129, 3) := by decide +kernel
theorem dX4_confirm_29 : decode cX4_confirm 29 = .ok (.ifCond .eq 7, 3) := by decide +kernel
theorem dX4_confirm_32 : decode cX4_confirm 32 = .ok (.iconst 1, 1) := by decide +kernel
theorem dX4_confirm_33 : decode cX4_confirm 33 = .ok (.goto 4, 3) := by decide +kernel
theorem dX4_confirm_36 : decode cX4_confirm 36 = .ok (.iconst 0, 1) := by decide +kernel
theorem dX4_confirm_37 : decode cX4_confirm 37 = .ok (.istore_n 3, 1) := by decide +kernel
theorem dX4_confirm_38 : decode cX4_confirm 38 = .ok (.aload_n 2, 1) := by decide +kernel
theorem dX4_confirm_39 : decode cX4_confirm 39 = .ok (.aload_n 0, 1) := by decide +kernel
theorem dX4_confirm_40 : decode cX4_confirm 40 = .ok (.getfield 19, 3) := by decide +kernel
theorem dX4_confirm_43 : decode cX4_confirm 43 = .ok (.invokevirtual 88, 3) := by decide +kernel
theorem dX4_confirm_46 : decode cX4_confirm 46 = .ok (.putfield 92, 3) := by decide +kernel
theorem dX4_confirm_49 : decode cX4_confirm 49 = .ok (.aload_n 0, 1) := by decide +kernel
theorem dX4_confirm_50 : decode cX4_confirm 50 = .ok (.invokevirtual 60, 3) := by decide +kernel
theorem dX4_confirm_53 : decode cX4_confirm 53 = .ok (.iload_n 3, 1) := by decide +kernel
theorem dX4_confirm_54 : decode cX4_confirm 54 = .ok (.ireturn, 1) := by decide +kernel
theorem dX4_move_0 : decode cX4_move 0 = .ok (.aload_n 0, 1) := by decide +kernel
theorem dX4_move_1 : decode cX4_move 1 = .ok (.iload_n 1, 1) := by decide +kernel
theorem dX4_move_2 : decode cX4_move 2 = .ok (.invokevirtual 120, 3) := by decide +kernel
theorem dX4_move_5 : decode cX4_move 5 = .ok (.astore_n 3, 1) := by decide +kernel
theorem dX4_move_6 : decode cX4_move 6 = .ok (.aload_n 0, 1) := by decide +kernel
theorem dX4_move_7 : decode cX4_move 7 = .ok (.iload_n 2, 1) := by decide +kernel
theorem dX4_move_8 : decode cX4_move 8 = .ok (.invokevirtual 133, 3) := by decide +kernel
theorem dX4_move_11 : decode cX4_move 11 = .ok (.astore 4, 2) := by decide +kernel
theorem dX4_move_13 : decode cX4_move 13 = .ok (.aload_n 3, 1) := by decide +kernel
theorem dX4_move_14 : decode cX4_move 14 = .ok (.ifnull 8, 3) := by decide +kernel
theorem dX4_move_17 : decode cX4_move 17 = .ok (.aload 4, 2) := by decide +kernel
theorem dX4_move_19 : decode cX4_move 19 = .ok (.ifnonnull 7, 3) := by decide +kernel
theorem dX4_move_22 : decode cX4_move 22 = .ok (.sipush (-1001), 3) := by decide +kernel
theorem dX4_move_25 : decode cX4_move 25 = .ok (.ireturn, 1) := by decide +kernel
theorem dX4_move_26 : decode cX4_move 26 = .ok (.aload_n 3, 1) := by decide +kernel
theorem dX4_move_27 : decode cX4_move 27 = .ok (.invokevirtual 136, 3) := by decide +kernel
theorem dX4_move_30 : decode cX4_move 30 = .ok (.ifCond .ne 31, 3) := by decide +kernel
theorem dX4_move_33 : decode cX4_move 33 = .ok (.aload 4, 2) := by decide +kernel
theorem dX4_move_35 : decode cX4_move 35 = .ok (.getfield 99, 3) := by decide +kernel
theorem dX4_move_38 : decode cX4_move 38 = .ok (.aload_n 3, 1) := by decide +kernel
theorem dX4_move_39 : decode cX4_move 39 = .ok (.getfield 99, 3) := by decide +kernel
theorem dX4_move_42 : decode cX4_move 42 = .ok (.if_icmp .eq 19, 3) := by decide +kernel
theorem dX4_move_45 : decode cX4_move 45 = .ok (.aload 4, 2) := by decide +kernel
theorem dX4_move_47 : decode cX4_move 47 = .ok (.getfield 139, 3) := by decide +kernel
theorem dX4_move_50 : decode cX4_move 50 = .ok (.aload_n 3, 1) := by decide +kernel
theorem dX4_move_51 : decode cX4_move 51 = .ok (.getfield 99, 3) := by decide +kernel
theorem dX4_move_54 : decode cX4_move 54 = .ok (.invokestatic 105, 3) := by decide +kernel
theorem dX4_move_57 : decode cX4_move 57 = .ok (.iand, 1) := by decide +kernel
theorem dX4_move_58 : decode cX4_move 58 = .ok (.ifCond .eq 7, 3) := by decide +kernel
theorem dX4_move_61 : decode cX4_move 61 = .ok (.sipush (-1003), 3) := by decide +kernel
theorem dX4_move_64 : decode cX4_move 64 = .ok (.ireturn, 1) := by decide +kernel
theorem dX4_move_65 : decode cX4_move 65 = .ok (.aload_n 0, 1) := by decide +kernel
theorem dX4_move_66 : decode cX4_move 66 = .ok (.aload_n 3, 1) := by decide +kernel
theorem dX4_move_67 : decode cX4_move 67 = .ok (.getfield 99, 3) := by decide +kernel
theorem dX4_move_70 : decode cX4_move 70 = .ok (.aload 4, 2) := by decide +kernel
theorem dX4_move_72 : decode cX4_move 72 = .ok (.getfield 99, 3) := by decide +kernel
theorem dX4_move_75 : decode cX4_move 75 = .ok (.invokevirtual 142, 3) := by decide +kernel
theorem dX4_move_78 : decode cX4_move 78 = .ok (.aload_n 0, 1) := by decide +kernel
theorem dX4_move_79 : decode cX4_move 79 = .ok (.invokevirtual 60, 3) := by decide +kernel
theorem dX4_move_82 : decode cX4_move 82 = .ok (.aload 4, 2) := by decide +kernel
theorem dX4_move_84 : decode cX4_move 84 = .ok (.getfield 99, 3) := by decide +kernel
theorem dX4_move_87 : decode cX4_move 87 = .ok (.ireturn, 1) := by decide +kernel
theorem dX4_melt_0 : decode cX4_melt 0 = .ok (.aload_n 0, 1) := by decide +kernel
theorem dX4_melt_1 : decode cX4_melt 1 = .ok (.iload_n 1, 1) := by decide +kernel
theorem dX4_melt_2 : decode cX4_melt 2 = .ok (.invokevirtual 120, 3) := by decide +kernel
theorem dX4_melt_5 : decode cX4_melt 5 = .ok (.astore_n 3, 1) := by decide +kernel
theorem dX4_melt_6 : decode cX4_melt 6 = .ok (.aload_n 0, 1) := by decide +kernel
theorem dX4_melt_7 : decode cX4_melt 7 = .ok (.iload_n 2, 1) := by decide +kernel
theorem dX4_melt_8 : decode cX4_melt 8 = .ok (.invokevirtual 120, 3) := by decide +kernel
theorem dX4_melt_11 : decode cX4_melt 11 = .ok (.astore 4, 2) := by decide +kernel
theorem dX4_melt_13 : decode cX4_melt 13 = .ok (.aload_n 3, 1) := by decide +kernel
theorem dX4_melt_14 : decode cX4_melt 14 = .ok (.ifnull 8, 3) := by decide +kernel
theorem dX4_melt_17 : decode cX4_melt 17 = .ok (.aload 4, 2) := by decide +kernel
theorem dX4_melt_19 : decode cX4_melt 19 = .ok (.ifnonnull 7, 3) := by decide +kernel
theorem dX4_melt_22 : decode cX4_melt 22 = .ok (.sipush (-1001), 3) := by decide +kernel
theorem dX4_melt_25 : decode cX4_melt 25 = .ok (.ireturn, 1) := by decide +kernel
theorem dX4_melt_26 : decode cX4_melt 26 = .ok (.iload_n 1, 1) := by decide +kernel
theorem dX4_melt_27 : decode cX4_melt 27 = .ok (.iload_n 2, 1) := by decide +kernel
theorem dX4_melt_28 : decode cX4_melt 28 = .ok (.if_icmp .eq 12, 3) := by decide +kernel
theorem dX4_melt_31 : decode cX4_melt 31 = .ok (.aload_n 3, 1) := by decide +kernel
theorem dX4_melt_32 : decode cX4_melt 32 = .ok (.aload 4, 2) := by decide +kernel
theorem dX4_melt_34 : decode cX4_melt 34 = .ok (.invokestatic 145, 3) := by decide +kernel
theorem dX4_melt_37 : decode cX4_melt 37 = .ok (.ifCond .ne 7, 3) := by decide +kernel
theorem dX4_melt_40 : decode cX4_melt 40 = .ok (.sipush (-1003), 3) := by decide +kernel
theorem dX4_melt_43 : decode cX4_melt 43 = .ok (.ireturn, 1) := by decide +kernel
theorem dX4_melt_44 : decode cX4_melt 44 = .ok (.aload_n 3, 1) := by decide +kernel
theorem dX4_melt_45 : decode cX4_melt 45 = .ok (.aload 4, 2) := by decide +kernel
theorem dX4_melt_47 : decode cX4_melt 47 = .ok (.invokevirtual 149, 3) := by decide +kernel
theorem dX4_melt_50 : decode cX4_melt 50 = .ok (.aload_n 0, 1) := by decide +kernel
theorem dX4_melt_51 : decode cX4_melt 51 = .ok (.aload 4, 2) := by decide +kernel
theorem dX4_melt_53 : decode cX4_melt 53 = .ok (.getfield 99, 3) := by decide +kernel
theorem dX4_melt_56 : decode cX4_melt 56 = .ok (.aload_n 3, 1) := by decide +kernel
theorem dX4_melt_57 : decode cX4_melt 57 = .ok (.getfield 99, 3) := by decide +kernel
theorem dX4_melt_60 : decode cX4_melt 60 = .ok (.invokevirtual 142, 3) := by decide +kernel
theorem dX4_melt_63 : decode cX4_melt 63 = .ok (.aload_n 0, 1) := by decide +kernel
theorem dX4_melt_64 : decode cX4_melt 64 = .ok (.invokevirtual 60, 3) := by decide +kernel
theorem dX4_melt_67 : decode cX4_melt 67 = .ok (.iconst 1, 1) := by decide +kernel
theorem dX4_melt_68 : decode cX4_melt 68 = .ok (.ireturn, 1) := by decide +kernel
theorem dX4_vote_0 : decode cX4_vote 0 = .ok (.aload_n 0, 1) := by decide +kernel
theorem dX4_vote_1 : decode cX4_vote 1 = .ok (.iload_n 1, 1) := by decide +kernel
theorem dX4_vote_2 : decode cX4_vote 2 = .ok (.invokevirtual 120, 3) := by decide +kernel
theorem dX4_vote_5 : decode cX4_vote 5 = .ok (.astore_n 3, 1) := by decide +kernel
theorem dX4_vote_6 : decode cX4_vote 6 = .ok (.aload_n 3, 1) := by decide +kernel
theorem dX4_vote_7 : decode cX4_vote 7 = .ok (.ifnonnull 7, 3) := by decide +kernel
theorem dX4_vote_10 : decode cX4_vote 10 = .ok (.sipush (-1001), 3) := by decide +kernel
theorem dX4_vote_13 : decode cX4_vote 13 = .ok (.ireturn, 1) := by decide +kernel
theorem dX4_vote_14 : decode cX4_vote 14 = .ok (.aload_n 3, 1) := by decide +kernel
theorem dX4_vote_15 : decode cX4_vote 15 = .ok (.invokevirtual 136, 3) := by decide +kernel
theorem dX4_vote_18 : decode cX4_vote 18 = .ok (.ifCond .eq 7, 3) := by decide +kernel
theorem dX4_vote_21 : decode cX4_vote 21 = .ok (.sipush (-1003), 3) := by decide +kernel
theorem dX4_vote_24 : decode cX4_vote 24 = .ok (.ireturn, 1) := by decide +kernel
theorem dX4_vote_25 : decode cX4_vote 25 = .ok (.aload_n 3, 1) := by decide +kernel
theorem dX4_vote_26 : decode cX4_vote 26 = .ok (.dup, 1) := by decide +kernel
theorem dX4_vote_27 : decode cX4_vote 27 = .ok (.getfield 152, 3) := by decide +kernel
theorem dX4_vote_30 : decode cX4_vote 30 = .ok (.iload_n 2, 1) := by decide +kernel
theorem dX4_vote_31 : decode cX4_vote 31 = .ok (.ifCond .eq 7, 3) := by decide +kernel
theorem dX4_vote_34 : decode cX4_vote 34 = .ok (.iconst 1, 1) := by decide +kernel
theorem dX4_vote_35 : decode cX4_vote 35 = .ok (.goto 4, 3) := by decide +kernel
theorem dX4_vote_38 : decode cX4_vote 38 = .ok (.iconst (-1), 1) := by decide +kernel
theorem dX4_vote_39 : decode cX4_vote 39 = .ok (.iadd, 1) := by decide +kernel
theorem dX4_vote_40 : decode cX4_vote 40 = .ok (.putfield 152, 3) := by decide +kernel
theorem dX4_vote_43 : decode cX4_vote 43 = .ok (.aload_n 3, 1) := by decide +kernel
theorem dX4_vote_44 : decode cX4_vote 44 = .ok (.getfield 152, 3) := by decide +kernel
theorem dX4_vote_47 : decode cX4_vote 47 = .ok (.ireturn, 1) := by decide +kernel
theorem dX4_told_0 : decode cX4_told 0 = .ok (.aload_n 0, 1) := by decide +kernel
theorem dX4_told_1 : decode cX4_told 1 = .ok (.iload_n 1, 1) := by decide +kernel
theorem dX4_told_2 : decode cX4_told 2 = .ok (.invokevirtual 120, 3) := by decide +kernel
theorem dX4_told_5 : decode cX4_told 5 = .ok (.astore_n 3, 1) := by decide +kernel
theorem dX4_told_6 : decode cX4_told 6 = .ok (.aload_n 3, 1) := by decide +kernel
theorem dX4_told_7 : decode cX4_told 7 = .ok (.ifnonnull 7, 3) := by decide +kernel
theorem dX4_told_10 : decode cX4_told 10 = .ok (.sipush (-1001), 3) := by decide +kernel
theorem dX4_told_13 : decode cX4_told 13 = .ok (.ireturn, 1) := by decide +kernel
theorem dX4_told_14 : decode cX4_told 14 = .ok (.iload_n 2, 1) := by decide +kernel
theorem dX4_told_15 : decode cX4_told 15 = .ok (.tableswitch 130 0 13 #[69, 74, 79, 84, 84, 84, 92, 97, 110, 115, 120, 120, 120, 120], 69) := by decide +kernel
theorem dX4_told_84 : decode cX4_told 84 = .ok (.aload_n 3, 1) := by decide +kernel
theorem dX4_told_85 : decode cX4_told 85 = .ok (.invokevirtual 124, 3) := by decide +kernel
theorem dX4_told_88 : decode cX4_told 88 = .ok (.ireturn, 1) := by decide +kernel
theorem dX4_told_89 : decode cX4_told 89 = .ok (.aload_n 3, 1) := by decide +kernel
theorem dX4_told_90 : decode cX4_told 90 = .ok (.getfield 155, 3) := by decide +kernel
theorem dX4_told_93 : decode cX4_told 93 = .ok (.ireturn, 1) := by decide +kernel
theorem dX4_told_94 : decode cX4_told 94 = .ok (.aload_n 3, 1) := by decide +kernel
theorem dX4_told_95 : decode cX4_told 95 = .ok (.getfield 158, 3) := by decide +kernel
theorem dX4_told_98 : decode cX4_told 98 = .ok (.ireturn, 1) := by decide +kernel
theorem dX4_told_99 : decode cX4_told 99 = .ok (.aload_n 3, 1) := by decide +kernel
theorem dX4_told_100 : decode cX4_told 100 = .ok (.iload_n 2, 1) := by decide +kernel
theorem dX4_told_101 : decode cX4_told 101 = .ok (.iconst 3, 1) := by decide +kernel
theorem dX4_told_102 : decode cX4_told 102 = .ok (.isub, 1) := by decide +kernel
theorem dX4_told_103 : decode cX4_told 103 = .ok (.invokevirtual 161, 3) := by decide +kernel
theorem dX4_told_106 : decode cX4_told 106 = .ok (.ireturn, 1) := by decide +kernel
theorem dX4_told_107 : decode cX4_told 107 = .ok (.aload_n 3, 1) := by decide +kernel
theorem dX4_told_108 : decode cX4_told 108 = .ok (.getfield 127, 3) := by decide +kernel
theorem dX4_told_111 : decode cX4_told 111 = .ok (.ireturn, 1) := by decide +kernel
theorem dX4_told_112 : decode cX4_told 112 = .ok (.aload_n 3, 1) := by decide +kernel
theorem dX4_told_113 : decode cX4_told 113 = .ok (.invokevirtual 129, 3) := by decide +kernel
theorem dX4_told_116 : decode cX4_told 116 = .ok (.ifCond .eq 7, 3) := by decide +kernel
theorem dX4_told_119 : decode cX4_told 119 = .ok (.iconst 1, 1) := by decide +kernel
theorem dX4_told_120 : decode cX4_told 120 = .ok (.goto 4, 3) := by decide +kernel
theorem dX4_told_123 : decode cX4_told 123 = .ok (.iconst 0, 1) := by decide +kernel
theorem dX4_told_124 : decode cX4_told 124 = .ok (.ireturn, 1) := by decide +kernel
theorem dX4_told_125 : decode cX4_told 125 = .ok (.aload_n 3, 1) := by decide +kernel
theorem dX4_told_126 : decode cX4_told 126 = .ok (.getfield 152, 3) := by decide +kernel
theorem dX4_told_129 : decode cX4_told 129 = .ok (.ireturn, 1) := by decide +kernel
theorem dX4_told_130 : decode cX4_told 130 = .ok (.aload_n 3, 1) := by decide +kernel
theorem dX4_told_131 : decode cX4_told 131 = .ok (.invokevirtual 164, 3) := by decide +kernel
theorem dX4_told_134 : decode cX4_told 134 = .ok (.ireturn, 1) := by decide +kernel
theorem dX4_told_135 : decode cX4_told 135 = .ok (.aload_n 0, 1) := by decide +kernel
theorem dX4_told_136 : decode cX4_told 136 = .ok (.aload_n 3, 1) := by decide +kernel
theorem dX4_told_137 : decode cX4_told 137 = .ok (.iload_n 2, 1) := by decide +kernel
theorem dX4_told_138 : decode cX4_told 138 = .ok (.bipush 10, 2) := by decide +kernel
theorem dX4_told_140 : decode cX4_told 140 = .ok (.isub, 1) := by decide +kernel
theorem dX4_told_141 : decode cX4_told 141 = .ok (.invokevirtual 167, 3) := by decide +kernel
theorem dX4_told_144 : decode cX4_told 144 = .ok (.ireturn, 1) := by decide +kernel
theorem dX4_told_145 : decode cX4_told 145 = .ok (.sipush (-1002), 3) := by decide +kernel
theorem dX4_told_148 : decode cX4_told 148 = .ok (.ireturn, 1) := by decide +kernel
theorem dX4_words_0 : decode cX4_words 0 = .ok (.aload_n 0, 1) := by decide +kernel
theorem dX4_words_1 : decode cX4_words 1 = .ok (.iload_n 1, 1) := by decide +kernel
theorem dX4_words_2 : decode cX4_words 2 = .ok (.invokevirtual 120, 3) := by decide +kernel
theorem dX4_words_5 : decode cX4_words 5 = .ok (.astore_n 2, 1) := by decide +kernel
theorem dX4_words_6 : decode cX4_words 6 = .ok (.aload_n 2, 1) := by decide +kernel
theorem dX4_words_7 : decode cX4_words 7 = .ok (.ifnonnull 9, 3) := by decide +kernel
theorem dX4_words_10 : decode cX4_words 10 = .ok (.ldc2_w 171, 3) := by decide +kernel
theorem dX4_words_13 : decode cX4_words 13 = .ok (.goto 7, 3) := by decide +kernel
theorem dX4_words_16 : decode cX4_words 16 = .ok (.aload_n 2, 1) := by decide +kernel
theorem dX4_words_17 : decode cX4_words 17 = .ok (.getfield 81, 3) := by decide +kernel
theorem dX4_words_20 : decode cX4_words 20 = .ok (.lreturn, 1) := by decide +kernel
theorem dX4_holds_0 : decode cX4_holds 0 = .ok (.aload_n 0, 1) := by decide +kernel
theorem dX4_holds_1 : decode cX4_holds 1 = .ok (.iload_n 1, 1) := by decide +kernel
theorem dX4_holds_2 : decode cX4_holds 2 = .ok (.invokevirtual 120, 3) := by decide +kernel
theorem dX4_holds_5 : decode cX4_holds 5 = .ok (.astore 5, 2) := by decide +kernel
theorem dX4_holds_7 : decode cX4_holds 7 = .ok (.aload 5, 2) := by decide +kernel
theorem dX4_holds_9 : decode cX4_holds 9 = .ok (.ifnonnull 7, 3) := by decide +kernel
theorem dX4_holds_12 : decode cX4_holds 12 = .ok (.sipush (-1001), 3) := by decide +kernel
theorem dX4_holds_15 : decode cX4_holds 15 = .ok (.ireturn, 1) := by decide +kernel
theorem dX4_holds_16 : decode cX4_holds 16 = .ok (.iconst 0, 1) := by decide +kernel
theorem dX4_holds_17 : decode cX4_holds 17 = .ok (.iload_n 2, 1) := by decide +kernel
theorem dX4_holds_18 : decode cX4_holds 18 = .ok (.invokestatic 173, 3) := by decide +kernel
theorem dX4_holds_21 : decode cX4_holds 21 = .ok (.ifCond .eq 20, 3) := by decide +kernel
theorem dX4_holds_24 : decode cX4_holds 24 = .ok (.iconst 1, 1) := by decide +kernel
theorem dX4_holds_25 : decode cX4_holds 25 = .ok (.iload_n 3, 1) := by decide +kernel
theorem dX4_holds_26 : decode cX4_holds 26 = .ok (.invokestatic 173, 3) := by decide +kernel
theorem dX4_holds_29 : decode cX4_holds 29 = .ok (.ifCond .eq 12, 3) := by decide +kernel
theorem dX4_holds_32 : decode cX4_holds 32 = .ok (.iconst 2, 1) := by decide +kernel
theorem dX4_holds_33 : decode cX4_holds 33 = .ok (.iload 4, 2) := by decide +kernel
theorem dX4_holds_35 : decode cX4_holds 35 = .ok (.invokestatic 173, 3) := by decide +kernel
theorem dX4_holds_38 : decode cX4_holds 38 = .ok (.ifCond .ne 7, 3) := by decide +kernel
theorem dX4_holds_41 : decode cX4_holds 41 = .ok (.sipush (-1002), 3) := by decide +kernel
theorem dX4_holds_44 : decode cX4_holds 44 = .ok (.ireturn, 1) := by decide +kernel
theorem dX4_holds_45 : decode cX4_holds 45 = .ok (.aload 5, 2) := by decide +kernel
theorem dX4_holds_47 : decode cX4_holds 47 = .ok (.iconst 0, 1) := by decide +kernel
theorem dX4_holds_48 : decode cX4_holds 48 = .ok (.iload_n 2, 1) := by decide +kernel
theorem dX4_holds_49 : decode cX4_holds 49 = .ok (.invokevirtual 176, 3) := by decide +kernel
theorem dX4_holds_52 : decode cX4_holds 52 = .ok (.ifCond .eq 28, 3) := by decide +kernel
theorem dX4_holds_55 : decode cX4_holds 55 = .ok (.aload 5, 2) := by decide +kernel
theorem dX4_holds_57 : decode cX4_holds 57 = .ok (.iconst 1, 1) := by decide +kernel
theorem dX4_holds_58 : decode cX4_holds 58 = .ok (.iload_n 3, 1) := by decide +kernel
theorem dX4_holds_59 : decode cX4_holds 59 = .ok (.invokevirtual 176, 3) := by decide +kernel
theorem dX4_holds_62 : decode cX4_holds 62 = .ok (.ifCond .eq 18, 3) := by decide +kernel
theorem dX4_holds_65 : decode cX4_holds 65 = .ok (.aload 5, 2) := by decide +kernel
theorem dX4_holds_67 : decode cX4_holds 67 = .ok (.iconst 2, 1) := by decide +kernel
theorem dX4_holds_68 : decode cX4_holds 68 = .ok (.iload 4, 2) := by decide +kernel
theorem dX4_holds_70 : decode cX4_holds 70 = .ok (.invokevirtual 176, 3) := by decide +kernel
theorem dX4_holds_73 : decode cX4_holds 73 = .ok (.ifCond .eq 7, 3) := by decide +kernel
theorem dX4_holds_76 : decode cX4_holds 76 = .ok (.iconst 1, 1) := by decide +kernel
theorem dX4_holds_77 : decode cX4_holds 77 = .ok (.goto 4, 3) := by decide +kernel
theorem dX4_holds_80 : decode cX4_holds 80 = .ok (.iconst 0, 1) := by decide +kernel
theorem dX4_holds_81 : decode cX4_holds 81 = .ok (.istore 6, 2) := by decide +kernel
theorem dX4_holds_83 : decode cX4_holds 83 = .ok (.iload 6, 2) := by decide +kernel
theorem dX4_holds_85 : decode cX4_holds 85 = .ok (.ifCond .eq 15, 3) := by decide +kernel
theorem dX4_holds_88 : decode cX4_holds 88 = .ok (.aload 5, 2) := by decide +kernel
theorem dX4_holds_90 : decode cX4_holds 90 = .ok (.invokevirtual 136, 3) := by decide +kernel
theorem dX4_holds_93 : decode cX4_holds 93 = .ok (.ifCond .ne 7, 3) := by decide +kernel
theorem dX4_holds_96 : decode cX4_holds 96 = .ok (.iconst 1, 1) := by decide +kernel
theorem dX4_holds_97 : decode cX4_holds 97 = .ok (.goto 4, 3) := by decide +kernel
theorem dX4_holds_100 : decode cX4_holds 100 = .ok (.iconst 0, 1) := by decide +kernel
theorem dX4_holds_101 : decode cX4_holds 101 = .ok (.ireturn, 1) := by decide +kernel
theorem dX4_count_0 : decode cX4_count 0 = .ok (.iload_n 1, 1) := by decide +kernel
theorem dX4_count_1 : decode cX4_count 1 = .ok (.tableswitch 96 0 8 #[51, 56, 56, 56, 64, 69, 74, 79, 87], 51) := by decide +kernel
theorem dX4_count_52 : decode cX4_count 52 = .ok (.aload_n 0, 1) := by decide +kernel
theorem dX4_count_53 : decode cX4_count 53 = .ok (.getfield 35, 3) := by decide +kernel
theorem dX4_count_56 : decode cX4_count 56 = .ok (.ireturn, 1) := by decide +kernel
theorem dX4_count_57 : decode cX4_count 57 = .ok (.aload_n 0, 1) := by decide +kernel
theorem dX4_count_58 : decode cX4_count 58 = .ok (.iload_n 1, 1) := by decide +kernel
theorem dX4_count_59 : decode cX4_count 59 = .ok (.iconst 1, 1) := by decide +kernel
theorem dX4_count_60 : decode cX4_count 60 = .ok (.isub, 1) := by decide +kernel
theorem dX4_count_61 : decode cX4_count 61 = .ok (.invokevirtual 179, 3) := by decide +kernel
theorem dX4_count_64 : decode cX4_count 64 = .ok (.ireturn, 1) := by decide +kernel
theorem dX4_count_65 : decode cX4_count 65 = .ok (.aload_n 0, 1) := by decide +kernel
theorem dX4_count_66 : decode cX4_count 66 = .ok (.invokevirtual 182, 3) := by decide +kernel
theorem dX4_count_69 : decode cX4_count 69 = .ok (.ireturn, 1) := by decide +kernel
theorem dX4_count_70 : decode cX4_count 70 = .ok (.aload_n 0, 1) := by decide +kernel
theorem dX4_count_71 : decode cX4_count 71 = .ok (.invokevirtual 185, 3) := by decide +kernel
theorem dX4_count_74 : decode cX4_count 74 = .ok (.ireturn, 1) := by decide +kernel
theorem dX4_count_75 : decode cX4_count 75 = .ok (.aload_n 0, 1) := by decide +kernel
theorem dX4_count_76 : decode cX4_count 76 = .ok (.getfield 39, 3) := by decide +kernel
theorem dX4_count_79 : decode cX4_count 79 = .ok (.ireturn, 1) := by decide +kernel
theorem dX4_count_80 : decode cX4_count 80 = .ok (.aload_n 0, 1) := by decide +kernel
theorem dX4_count_81 : decode cX4_count 81 = .ok (.invokevirtual 188, 3) := by decide +kernel
theorem dX4_count_84 : decode cX4_count 84 = .ok (.invokestatic 108, 3) := by decide +kernel
theorem dX4_count_87 : decode cX4_count 87 = .ok (.ireturn, 1) := by decide +kernel
theorem dX4_count_88 : decode cX4_count 88 = .ok (.aload_n 0, 1) := by decide +kernel
theorem dX4_count_89 : decode cX4_count 89 = .ok (.aload_n 0, 1) := by decide +kernel
theorem dX4_count_90 : decode cX4_count 90 = .ok (.invokevirtual 188, 3) := by decide +kernel
theorem dX4_count_93 : decode cX4_count 93 = .ok (.invokevirtual 191, 3) := by decide +kernel
theorem dX4_count_96 : decode cX4_count 96 = .ok (.ireturn, 1) := by decide +kernel
theorem dX4_count_97 : decode cX4_count 97 = .ok (.sipush (-1002), 3) := by decide +kernel
theorem dX4_count_100 : decode cX4_count 100 = .ok (.ireturn, 1) := by decide +kernel
theorem dX4_quarrel_0 : decode cX4_quarrel 0 = .ok (.iload_n 2, 1) := by decide +kernel
theorem dX4_quarrel_1 : decode cX4_quarrel 1 = .ok (.iconst 0, 1) := by decide +kernel
theorem dX4_quarrel_2 : decode cX4_quarrel 2 = .ok (.iconst 4, 1) := by decide +kernel
theorem dX4_quarrel_3 : decode cX4_quarrel 3 = .ok (.invokestatic 66, 3) := by decide +kernel
theorem dX4_quarrel_6 : decode cX4_quarrel 6 = .ok (.ifCond .ne 7, 3) := by decide +kernel
theorem dX4_quarrel_9 : decode cX4_quarrel 9 = .ok (.sipush (-1002), 3) := by decide +kernel
theorem dX4_quarrel_12 : decode cX4_quarrel 12 = .ok (.ireturn, 1) := by decide +kernel
theorem dX4_quarrel_13 : decode cX4_quarrel 13 = .ok (.iconst 0, 1) := by decide +kernel
theorem dX4_quarrel_14 : decode cX4_quarrel 14 = .ok (.istore_n 3, 1) := by decide +kernel
theorem dX4_quarrel_15 : decode cX4_quarrel 15 = .ok (.iconst 0, 1) := by decide +kernel
theorem dX4_quarrel_16 : decode cX4_quarrel 16 = .ok (.istore 4, 2) := by decide +kernel
theorem dX4_quarrel_18 : decode cX4_quarrel 18 = .ok (.iload 4, 2) := by decide +kernel
theorem dX4_quarrel_20 : decode cX4_quarrel 20 = .ok (.aload_n 0, 1) := by decide +kernel
theorem dX4_quarrel_21 : decode cX4_quarrel 21 = .ok (.getfield 35, 3) := by decide +kernel
theorem dX4_quarrel_24 : decode cX4_quarrel 24 = .ok (.if_icmp .ge 67, 3) := by decide +kernel
theorem dX4_quarrel_27 : decode cX4_quarrel 27 = .ok (.iload 4, 2) := by decide +kernel
theorem dX4_quarrel_29 : decode cX4_quarrel 29 = .ok (.iconst 1, 1) := by decide +kernel
theorem dX4_quarrel_30 : decode cX4_quarrel 30 = .ok (.iadd, 1) := by decide +kernel
theorem dX4_quarrel_31 : decode cX4_quarrel 31 = .ok (.istore 5, 2) := by decide +kernel
theorem dX4_quarrel_33 : decode cX4_quarrel 33 = .ok (.iload 5, 2) := by decide +kernel
theorem dX4_quarrel_35 : decode cX4_quarrel 35 = .ok (.aload_n 0, 1) := by decide +kernel
theorem dX4_quarrel_36 : decode cX4_quarrel 36 = .ok (.getfield 35, 3) := by decide +kernel
theorem dX4_quarrel_39 : decode cX4_quarrel 39 = .ok (.if_icmp .ge 46, 3) := by decide +kernel
theorem dX4_quarrel_42 : decode cX4_quarrel 42 = .ok (.aload_n 0, 1) := by decide +kernel
theorem dX4_quarrel_43 : decode cX4_quarrel 43 = .ok (.aload_n 0, 1) := by decide +kernel
theorem dX4_quarrel_44 : decode cX4_quarrel 44 = .ok (.iload 4, 2) := by decide +kernel
theorem dX4_quarrel_46 : decode cX4_quarrel 46 = .ok (.invokevirtual 120, 3) := by decide +kernel
theorem dX4_quarrel_49 : decode cX4_quarrel 49 = .ok (.aload_n 0, 1) := by decide +kernel
theorem dX4_quarrel_50 : decode cX4_quarrel 50 = .ok (.iload 5, 2) := by decide +kernel
theorem dX4_quarrel_52 : decode cX4_quarrel 52 = .ok (.invokevirtual 120, 3) := by decide +kernel
theorem dX4_quarrel_55 : decode cX4_quarrel 55 = .ok (.invokevirtual 194, 3) := by decide +kernel
theorem dX4_quarrel_58 : decode cX4_quarrel 58 = .ok (.ifCond .eq 21, 3) := by decide +kernel
theorem dX4_quarrel_61 : decode cX4_quarrel 61 = .ok (.iload_n 3, 1) := by decide +kernel
theorem dX4_quarrel_62 : decode cX4_quarrel 62 = .ok (.iload_n 1, 1) := by decide +kernel
theorem dX4_quarrel_63 : decode cX4_quarrel 63 = .ok (.if_icmp .ne 13, 3) := by decide +kernel
theorem dX4_quarrel_66 : decode cX4_quarrel 66 = .ok (.aload_n 0, 1) := by decide +kernel
theorem dX4_quarrel_67 : decode cX4_quarrel 67 = .ok (.iload 4, 2) := by decide +kernel
theorem dX4_quarrel_69 : decode cX4_quarrel 69 = .ok (.iload 5, 2) := by decide +kernel
theorem dX4_quarrel_71 : decode cX4_quarrel 71 = .ok (.iload_n 2, 1) := by decide +kernel
theorem dX4_quarrel_72 : decode cX4_quarrel 72 = .ok (.invokevirtual 197, 3) := by decide +kernel
theorem dX4_quarrel_75 : decode cX4_quarrel 75 = .ok (.ireturn, 1) := by decide +kernel
theorem dX4_quarrel_76 : decode cX4_quarrel 76 = .ok (.iinc 3 1, 3) := by decide +kernel
theorem dX4_quarrel_79 : decode cX4_quarrel 79 = .ok (.iinc 5 1, 3) := by decide +kernel
theorem dX4_quarrel_82 : decode cX4_quarrel 82 = .ok (.goto (-49), 3) := by decide +kernel
theorem dX4_quarrel_85 : decode cX4_quarrel 85 = .ok (.iinc 4 1, 3) := by decide +kernel
theorem dX4_quarrel_88 : decode cX4_quarrel 88 = .ok (.goto (-70), 3) := by decide +kernel
theorem dX4_quarrel_91 : decode cX4_quarrel 91 = .ok (.iconst (-1), 1) := by decide +kernel
theorem dX4_quarrel_92 : decode cX4_quarrel 92 = .ok (.ireturn, 1) := by decide +kernel
theorem dX4_ask_0 : decode cX4_ask 0 = .ok (.lload_n 1, 1) := by decide +kernel
theorem dX4_ask_1 : decode cX4_ask 1 = .ok (.invokestatic 70, 3) := by decide +kernel
theorem dX4_ask_4 : decode cX4_ask 4 = .ok (.ifCond .eq 29, 3) := by decide +kernel
theorem dX4_ask_7 : decode cX4_ask 7 = .ok (.iconst 0, 1) := by decide +kernel
theorem dX4_ask_8 : decode cX4_ask 8 = .ok (.iload_n 3, 1) := by decide +kernel
theorem dX4_ask_9 : decode cX4_ask 9 = .ok (.invokestatic 201, 3) := by decide +kernel
theorem dX4_ask_12 : decode cX4_ask 12 = .ok (.ifCond .eq 21, 3) := by decide +kernel
theorem dX4_ask_15 : decode cX4_ask 15 = .ok (.iconst 1, 1) := by decide +kernel
theorem dX4_ask_16 : decode cX4_ask 16 = .ok (.iload 4, 2) := by decide +kernel
theorem dX4_ask_18 : decode cX4_ask 18 = .ok (.invokestatic 201, 3) := by decide +kernel
theorem dX4_ask_21 : decode cX4_ask 21 = .ok (.ifCond .eq 12, 3) := by decide +kernel
theorem dX4_ask_24 : decode cX4_ask 24 = .ok (.iconst 2, 1) := by decide +kernel
theorem dX4_ask_25 : decode cX4_ask 25 = .ok (.iload 5, 2) := by decide +kernel
theorem dX4_ask_27 : decode cX4_ask 27 = .ok (.invokestatic 201, 3) := by decide +kernel
theorem dX4_ask_30 : decode cX4_ask 30 = .ok (.ifCond .ne 7, 3) := by decide +kernel
theorem dX4_ask_33 : decode cX4_ask 33 = .ok (.sipush (-1002), 3) := by decide +kernel
theorem dX4_ask_36 : decode cX4_ask 36 = .ok (.ireturn, 1) := by decide +kernel
theorem dX4_ask_37 : decode cX4_ask 37 = .ok (.aload_n 0, 1) := by decide +kernel
theorem dX4_ask_38 : decode cX4_ask 38 = .ok (.getfield 39, 3) := by decide +kernel
theorem dX4_ask_41 : decode cX4_ask 41 = .ok (.aload_n 0, 1) := by decide +kernel
theorem dX4_ask_42 : decode cX4_ask 42 = .ok (.getfield 31, 3) := by decide +kernel
theorem dX4_ask_45 : decode cX4_ask 45 = .ok (.arraylength, 1) := by decide +kernel
theorem dX4_ask_46 : decode cX4_ask 46 = .ok (.if_icmp .lt 7, 3) := by decide +kernel
theorem dX4_ask_49 : decode cX4_ask 49 = .ok (.sipush (-1004), 3) := by decide +kernel
theorem dX4_ask_52 : decode cX4_ask 52 = .ok (.ireturn, 1) := by decide +kernel
theorem dX4_ask_53 : decode cX4_ask 53 = .ok (.aload_n 0, 1) := by decide +kernel
theorem dX4_ask_54 : decode cX4_ask 54 = .ok (.getfield 31, 3) := by decide +kernel
theorem dX4_ask_57 : decode cX4_ask 57 = .ok (.aload_n 0, 1) := by decide +kernel
theorem dX4_ask_58 : decode cX4_ask 58 = .ok (.getfield 39, 3) := by decide +kernel
theorem dX4_ask_61 : decode cX4_ask 61 = .ok (.new 29, 3) := by decide +kernel
theorem dX4_ask_64 : decode cX4_ask 64 = .ok (.dup, 1) := by decide +kernel
theorem dX4_ask_65 : decode cX4_ask 65 = .ok (.lload_n 1, 1) := by decide +kernel
theorem dX4_ask_66 : decode cX4_ask 66 = .ok (.iload_n 3, 1) := by decide +kernel
theorem dX4_ask_67 : decode cX4_ask 67 = .ok (.iload 4, 2) := by decide +kernel
theorem dX4_ask_69 : decode cX4_ask 69 = .ok (.iload 5, 2) := by decide +kernel
theorem dX4_ask_71 : decode cX4_ask 71 = .ok (.invokespecial 204, 3) := by decide +kernel
theorem dX4_ask_74 : decode cX4_ask 74 = .ok (.aastore, 1) := by decide +kernel
theorem dX4_ask_75 : decode cX4_ask 75 = .ok (.aload_n 0, 1) := by decide +kernel
theorem dX4_ask_76 : decode cX4_ask 76 = .ok (.dup, 1) := by decide +kernel
theorem dX4_ask_77 : decode cX4_ask 77 = .ok (.getfield 39, 3) := by decide +kernel
theorem dX4_ask_80 : decode cX4_ask 80 = .ok (.iconst 1, 1) := by decide +kernel
theorem dX4_ask_81 : decode cX4_ask 81 = .ok (.iadd, 1) := by decide +kernel
theorem dX4_ask_82 : decode cX4_ask 82 = .ok (.putfield 39, 3) := by decide +kernel
theorem dX4_ask_85 : decode cX4_ask 85 = .ok (.aload_n 0, 1) := by decide +kernel
theorem dX4_ask_86 : decode cX4_ask 86 = .ok (.invokevirtual 60, 3) := by decide +kernel
theorem dX4_ask_89 : decode cX4_ask 89 = .ok (.aload_n 0, 1) := by decide +kernel
theorem dX4_ask_90 : decode cX4_ask 90 = .ok (.getfield 39, 3) := by decide +kernel
theorem dX4_ask_93 : decode cX4_ask 93 = .ok (.iconst 1, 1) := by decide +kernel
theorem dX4_ask_94 : decode cX4_ask 94 = .ok (.isub, 1) := by decide +kernel
theorem dX4_ask_95 : decode cX4_ask 95 = .ok (.ireturn, 1) := by decide +kernel
theorem dX4_found_0 : decode cX4_found 0 = .ok (.aload_n 0, 1) := by decide +kernel
theorem dX4_found_1 : decode cX4_found 1 = .ok (.iload_n 1, 1) := by decide +kernel
theorem dX4_found_2 : decode cX4_found 2 = .ok (.invokevirtual 207, 3) := by decide +kernel
theorem dX4_found_5 : decode cX4_found 5 = .ok (.astore 4, 2) := by decide +kernel
theorem dX4_found_7 : decode cX4_found 7 = .ok (.aload 4, 2) := by decide +kernel
theorem dX4_found_9 : decode cX4_found 9 = .ok (.ifnonnull 7, 3) := by decide +kernel
theorem dX4_found_12 : decode cX4_found 12 = .ok (.sipush (-1001), 3) := by decide +kernel
theorem dX4_found_15 : decode cX4_found 15 = .ok (.ireturn, 1) := by decide +kernel
theorem dX4_found_16 : decode cX4_found 16 = .ok (.iload_n 3, 1) := by decide +kernel
theorem dX4_found_17 : decode cX4_found 17 = .ok (.iconst 0, 1) := by decide +kernel
theorem dX4_found_18 : decode cX4_found 18 = .ok (.iconst 2, 1) := by decide +kernel
theorem dX4_found_19 : decode cX4_found 19 = .ok (.invokestatic 66, 3) := by decide +kernel
theorem dX4_found_22 : decode cX4_found 22 = .ok (.ifCond .ne 7, 3) := by decide +kernel
theorem dX4_found_25 : decode cX4_found 25 = .ok (.sipush (-1002), 3) := by decide +kernel
theorem dX4_found_28 : decode cX4_found 28 = .ok (.ireturn, 1) := by decide +kernel
theorem dX4_found_29 : decode cX4_found 29 = .ok (.aload_n 0, 1) := by decide +kernel
theorem dX4_found_30 : decode cX4_found 30 = .ok (.aload 4, 2) := by decide +kernel
theorem dX4_found_32 : decode cX4_found 32 = .ok (.iload_n 2, 1) := by decide +kernel
theorem dX4_found_33 : decode cX4_found 33 = .ok (.invokevirtual 211, 3) := by decide +kernel
theorem dX4_found_36 : decode cX4_found 36 = .ok (.astore 5, 2) := by decide +kernel
theorem dX4_found_38 : decode cX4_found 38 = .ok (.aload 5, 2) := by decide +kernel
theorem dX4_found_40 : decode cX4_found 40 = .ok (.ifnonnull 5, 3) := by decide +kernel
theorem dX4_found_43 : decode cX4_found 43 = .ok (.iconst (-1), 1) := by decide +kernel
theorem dX4_found_44 : decode cX4_found 44 = .ok (.ireturn, 1) := by decide +kernel
theorem dX4_found_45 : decode cX4_found 45 = .ok (.iload_n 3, 1) := by decide +kernel
theorem dX4_found_46 : decode cX4_found 46 = .ok (.ifCond .ne 11, 3) := by decide +kernel
theorem dX4_found_49 : decode cX4_found 49 = .ok (.aload 5, 2) := by decide +kernel
theorem dX4_found_51 : decode cX4_found 51 = .ok (.getfield 99, 3) := by decide +kernel
theorem dX4_found_54 : decode cX4_found 54 = .ok (.goto 30, 3) := by decide +kernel
theorem dX4_found_57 : decode cX4_found 57 = .ok (.iload_n 3, 1) := by decide +kernel
theorem dX4_found_58 : decode cX4_found 58 = .ok (.iconst 1, 1) := by decide +kernel
theorem dX4_found_59 : decode cX4_found 59 = .ok (.if_icmp .ne 18, 3) := by decide +kernel
theorem dX4_found_62 : decode cX4_found 62 = .ok (.aload 4, 2) := by decide +kernel
theorem dX4_found_64 : decode cX4_found 64 = .ok (.getfield 215, 3) := by decide +kernel
theorem dX4_found_67 : decode cX4_found 67 = .ok (.aload 4, 2) := by decide +kernel
theorem dX4_found_69 : decode cX4_found 69 = .ok (.aload 5, 2) := by decide +kernel
theorem dX4_found_71 : decode cX4_found 71 = .ok (.invokestatic 218, 3) := by decide +kernel
theorem dX4_found_74 : decode cX4_found 74 = .ok (.goto 10, 3) := by decide +kernel
theorem dX4_found_77 : decode cX4_found 77 = .ok (.aload 4, 2) := by decide +kernel
theorem dX4_found_79 : decode cX4_found 79 = .ok (.aload 5, 2) := by decide +kernel
theorem dX4_found_81 : decode cX4_found 81 = .ok (.invokestatic 222, 3) := by decide +kernel
theorem dX4_found_84 : decode cX4_found 84 = .ok (.ireturn, 1) := by decide +kernel
theorem dX4_cost_0 : decode cX4_cost 0 = .ok (.aload_n 0, 1) := by decide +kernel
theorem dX4_cost_1 : decode cX4_cost 1 = .ok (.iload_n 1, 1) := by decide +kernel
theorem dX4_cost_2 : decode cX4_cost 2 = .ok (.invokevirtual 207, 3) := by decide +kernel
theorem dX4_cost_5 : decode cX4_cost 5 = .ok (.astore_n 3, 1) := by decide +kernel
theorem dX4_cost_6 : decode cX4_cost 6 = .ok (.aload_n 0, 1) := by decide +kernel
theorem dX4_cost_7 : decode cX4_cost 7 = .ok (.iload_n 2, 1) := by decide +kernel
theorem dX4_cost_8 : decode cX4_cost 8 = .ok (.invokevirtual 120, 3) := by decide +kernel
theorem dX4_cost_11 : decode cX4_cost 11 = .ok (.astore 4, 2) := by decide +kernel
theorem dX4_cost_13 : decode cX4_cost 13 = .ok (.aload_n 3, 1) := by decide +kernel
theorem dX4_cost_14 : decode cX4_cost 14 = .ok (.ifnull 8, 3) := by decide +kernel
theorem dX4_cost_17 : decode cX4_cost 17 = .ok (.aload 4, 2) := by decide +kernel
theorem dX4_cost_19 : decode cX4_cost 19 = .ok (.ifnonnull 7, 3) := by decide +kernel
theorem dX4_cost_22 : decode cX4_cost 22 = .ok (.sipush (-1001), 3) := by decide +kernel
theorem dX4_cost_25 : decode cX4_cost 25 = .ok (.ireturn, 1) := by decide +kernel
theorem dX4_cost_26 : decode cX4_cost 26 = .ok (.aload_n 3, 1) := by decide +kernel
theorem dX4_cost_27 : decode cX4_cost 27 = .ok (.aload 4, 2) := by decide +kernel
theorem dX4_cost_29 : decode cX4_cost 29 = .ok (.invokestatic 226, 3) := by decide +kernel
theorem dX4_cost_32 : decode cX4_cost 32 = .ok (.ifCond .eq 16, 3) := by decide +kernel
theorem dX4_cost_35 : decode cX4_cost 35 = .ok (.aload_n 3, 1) := by decide +kernel
theorem dX4_cost_36 : decode cX4_cost 36 = .ok (.getfield 215, 3) := by decide +kernel
theorem dX4_cost_39 : decode cX4_cost 39 = .ok (.aload_n 3, 1) := by decide +kernel
theorem dX4_cost_40 : decode cX4_cost 40 = .ok (.aload 4, 2) := by decide +kernel
theorem dX4_cost_42 : decode cX4_cost 42 = .ok (.invokestatic 218, 3) := by decide +kernel
theorem dX4_cost_45 : decode cX4_cost 45 = .ok (.goto 6, 3) := by decide +kernel
theorem dX4_cost_48 : decode cX4_cost 48 = .ok (.sipush (-1003), 3) := by decide +kernel
theorem dX4_cost_51 : decode cX4_cost 51 = .ok (.ireturn, 1) := by decide +kernel
theorem dX4_asked_0 : decode cX4_asked 0 = .ok (.aload_n 0, 1) := by decide +kernel
theorem dX4_asked_1 : decode cX4_asked 1 = .ok (.iload_n 1, 1) := by decide +kernel
theorem dX4_asked_2 : decode cX4_asked 2 = .ok (.invokevirtual 207, 3) := by decide +kernel
theorem dX4_asked_5 : decode cX4_asked 5 = .ok (.astore_n 3, 1) := by decide +kernel
theorem dX4_asked_6 : decode cX4_asked 6 = .ok (.aload_n 3, 1) := by decide +kernel
theorem dX4_asked_7 : decode cX4_asked 7 = .ok (.ifnonnull 7, 3) := by decide +kernel
theorem dX4_asked_10 : decode cX4_asked 10 = .ok (.sipush (-1001), 3) := by decide +kernel
theorem dX4_asked_13 : decode cX4_asked 13 = .ok (.ireturn, 1) := by decide +kernel
theorem dX4_asked_14 : decode cX4_asked 14 = .ok (.iload_n 2, 1) := by decide +kernel
theorem dX4_asked_15 : decode cX4_asked 15 = .ok (.tableswitch 85 0 3 #[29, 47, 57, 79], 29) := by decide +kernel
theorem dX4_asked_44 : decode cX4_asked 44 = .ok (.aload_n 0, 1) := by decide +kernel
theorem dX4_asked_45 : decode cX4_asked 45 = .ok (.aload_n 3, 1) := by decide +kernel
theorem dX4_asked_46 : decode cX4_asked 46 = .ok (.getfield 215, 3) := by decide +kernel
theorem dX4_asked_49 : decode cX4_asked 49 = .ok (.aload_n 3, 1) := by decide +kernel
theorem dX4_asked_50 : decode cX4_asked 50 = .ok (.invokevirtual 230, 3) := by decide +kernel
theorem dX4_asked_53 : decode cX4_asked 53 = .ok (.ifCond .eq 7, 3) := by decide +kernel
theorem dX4_asked_56 : decode cX4_asked 56 = .ok (.iconst 0, 1) := by decide +kernel
theorem dX4_asked_57 : decode cX4_asked 57 = .ok (.goto 4, 3) := by decide +kernel
theorem dX4_asked_60 : decode cX4_asked 60 = .ok (.iconst 1, 1) := by decide +kernel
theorem dX4_asked_61 : decode cX4_asked 61 = .ok (.ireturn, 1) := by decide +kernel
theorem dX4_asked_62 : decode cX4_asked 62 = .ok (.aload_n 0, 1) := by decide +kernel
theorem dX4_asked_63 : decode cX4_asked 63 = .ok (.iload_n 1, 1) := by decide +kernel
theorem dX4_asked_64 : decode cX4_asked 64 = .ok (.aload_n 0, 1) := by decide +kernel
theorem dX4_asked_65 : decode cX4_asked 65 = .ok (.invokevirtual 188, 3) := by decide +kernel
theorem dX4_asked_68 : decode cX4_asked 68 = .ok (.invokevirtual 234, 3) := by decide +kernel
theorem dX4_asked_71 : decode cX4_asked 71 = .ok (.ireturn, 1) := by decide +kernel
theorem dX4_asked_72 : decode cX4_asked 72 = .ok (.aload_n 0, 1) := by decide +kernel
theorem dX4_asked_73 : decode cX4_asked 73 = .ok (.aload_n 3, 1) := by decide +kernel
theorem dX4_asked_74 : decode cX4_asked 74 = .ok (.getfield 215, 3) := by decide +kernel
theorem dX4_asked_77 : decode cX4_asked 77 = .ok (.aload_n 3, 1) := by decide +kernel
theorem dX4_asked_78 : decode cX4_asked 78 = .ok (.invokevirtual 230, 3) := by decide +kernel
theorem dX4_asked_81 : decode cX4_asked 81 = .ok (.ifCond .eq 7, 3) := by decide +kernel
theorem dX4_asked_84 : decode cX4_asked 84 = .ok (.iconst (-1), 1) := by decide +kernel
theorem dX4_asked_85 : decode cX4_asked 85 = .ok (.goto 8, 3) := by decide +kernel
theorem dX4_asked_88 : decode cX4_asked 88 = .ok (.aload_n 0, 1) := by decide +kernel
theorem dX4_asked_89 : decode cX4_asked 89 = .ok (.aload_n 3, 1) := by decide +kernel
theorem dX4_asked_90 : decode cX4_asked 90 = .ok (.invokevirtual 238, 3) := by decide +kernel
theorem dX4_asked_93 : decode cX4_asked 93 = .ok (.ireturn, 1) := by decide +kernel
theorem dX4_asked_94 : decode cX4_asked 94 = .ok (.aload_n 0, 1) := by decide +kernel
theorem dX4_asked_95 : decode cX4_asked 95 = .ok (.aload_n 3, 1) := by decide +kernel
theorem dX4_asked_96 : decode cX4_asked 96 = .ok (.invokevirtual 242, 3) := by decide +kernel
theorem dX4_asked_99 : decode cX4_asked 99 = .ok (.ireturn, 1) := by decide +kernel
theorem dX4_asked_100 : decode cX4_asked 100 = .ok (.sipush (-1002), 3) := by decide +kernel
theorem dX4_asked_103 : decode cX4_asked 103 = .ok (.ireturn, 1) := by decide +kernel
theorem dX4_answerAt_0 : decode cX4_answerAt 0 = .ok (.iload_n 1, 1) := by decide +kernel
theorem dX4_answerAt_1 : decode cX4_answerAt 1 = .ok (.ifCond .lt 29, 3) := by decide +kernel
theorem dX4_answerAt_4 : decode cX4_answerAt 4 = .ok (.iload_n 1, 1) := by decide +kernel
theorem dX4_answerAt_5 : decode cX4_answerAt 5 = .ok (.aload_n 0, 1) := by decide +kernel
theorem dX4_answerAt_6 : decode cX4_answerAt 6 = .ok (.getfield 35, 3) := by decide +kernel
theorem dX4_answerAt_9 : decode cX4_answerAt 9 = .ok (.if_icmp .ge 21, 3) := by decide +kernel
theorem dX4_answerAt_12 : decode cX4_answerAt 12 = .ok (.iload_n 1, 1) := by decide +kernel
theorem dX4_answerAt_13 : decode cX4_answerAt 13 = .ok (.aload_n 0, 1) := by decide +kernel
theorem dX4_answerAt_14 : decode cX4_answerAt 14 = .ok (.getfield 25, 3) := by decide +kernel
theorem dX4_answerAt_17 : decode cX4_answerAt 17 = .ok (.arraylength, 1) := by decide +kernel
theorem dX4_answerAt_18 : decode cX4_answerAt 18 = .ok (.if_icmp .ge 12, 3) := by decide +kernel
theorem dX4_answerAt_21 : decode cX4_answerAt 21 = .ok (.aload_n 0, 1) := by decide +kernel
theorem dX4_answerAt_22 : decode cX4_answerAt 22 = .ok (.getfield 25, 3) := by decide +kernel
theorem dX4_answerAt_25 : decode cX4_answerAt 25 = .ok (.iload_n 1, 1) := by decide +kernel
theorem dX4_answerAt_26 : decode cX4_answerAt 26 = .ok (.aaload, 1) := by decide +kernel
theorem dX4_answerAt_27 : decode cX4_answerAt 27 = .ok (.goto 4, 3) := by decide +kernel
theorem dX4_answerAt_30 : decode cX4_answerAt 30 = .ok (.aconst_null, 1) := by decide +kernel
theorem dX4_answerAt_31 : decode cX4_answerAt 31 = .ok (.areturn, 1) := by decide +kernel
theorem dX4_askAt_0 : decode cX4_askAt 0 = .ok (.iload_n 1, 1) := by decide +kernel
theorem dX4_askAt_1 : decode cX4_askAt 1 = .ok (.ifCond .lt 29, 3) := by decide +kernel
theorem dX4_askAt_4 : decode cX4_askAt 4 = .ok (.iload_n 1, 1) := by decide +kernel
theorem dX4_askAt_5 : decode cX4_askAt 5 = .ok (.aload_n 0, 1) := by decide +kernel
theorem dX4_askAt_6 : decode cX4_askAt 6 = .ok (.getfield 39, 3) := by decide +kernel
theorem dX4_askAt_9 : decode cX4_askAt 9 = .ok (.if_icmp .ge 21, 3) := by decide +kernel
theorem dX4_askAt_12 : decode cX4_askAt 12 = .ok (.iload_n 1, 1) := by decide +kernel
theorem dX4_askAt_13 : decode cX4_askAt 13 = .ok (.aload_n 0, 1) := by decide +kernel
theorem dX4_askAt_14 : decode cX4_askAt 14 = .ok (.getfield 31, 3) := by decide +kernel
theorem dX4_askAt_17 : decode cX4_askAt 17 = .ok (.arraylength, 1) := by decide +kernel
theorem dX4_askAt_18 : decode cX4_askAt 18 = .ok (.if_icmp .ge 12, 3) := by decide +kernel
theorem dX4_askAt_21 : decode cX4_askAt 21 = .ok (.aload_n 0, 1) := by decide +kernel
theorem dX4_askAt_22 : decode cX4_askAt 22 = .ok (.getfield 31, 3) := by decide +kernel
theorem dX4_askAt_25 : decode cX4_askAt 25 = .ok (.iload_n 1, 1) := by decide +kernel
theorem dX4_askAt_26 : decode cX4_askAt 26 = .ok (.aaload, 1) := by decide +kernel
theorem dX4_askAt_27 : decode cX4_askAt 27 = .ok (.goto 4, 3) := by decide +kernel
theorem dX4_askAt_30 : decode cX4_askAt 30 = .ok (.aconst_null, 1) := by decide +kernel
theorem dX4_askAt_31 : decode cX4_askAt 31 = .ok (.areturn, 1) := by decide +kernel
theorem dX4_isAnswer_0 : decode cX4_isAnswer 0 = .ok (.iload_n 1, 1) := by decide +kernel
theorem dX4_isAnswer_1 : decode cX4_isAnswer 1 = .ok (.ifCond .lt 15, 3) := by decide +kernel
theorem dX4_isAnswer_4 : decode cX4_isAnswer 4 = .ok (.iload_n 1, 1) := by decide +kernel
theorem dX4_isAnswer_5 : decode cX4_isAnswer 5 = .ok (.aload_n 0, 1) := by decide +kernel
theorem dX4_isAnswer_6 : decode cX4_isAnswer 6 = .ok (.getfield 35, 3) := by decide +kernel
theorem dX4_isAnswer_9 : decode cX4_isAnswer 9 = .ok (.if_icmp .ge 7, 3) := by decide +kernel
theorem dX4_isAnswer_12 : decode cX4_isAnswer 12 = .ok (.iconst 1, 1) := by decide +kernel
theorem dX4_isAnswer_13 : decode cX4_isAnswer 13 = .ok (.goto 4, 3) := by decide +kernel
theorem dX4_isAnswer_16 : decode cX4_isAnswer 16 = .ok (.iconst 0, 1) := by decide +kernel
theorem dX4_isAnswer_17 : decode cX4_isAnswer 17 = .ok (.ireturn, 1) := by decide +kernel
theorem dX4_within_0 : decode cX4_within 0 = .ok (.iload_n 0, 1) := by decide +kernel
theorem dX4_within_1 : decode cX4_within 1 = .ok (.iload_n 1, 1) := by decide +kernel
theorem dX4_within_2 : decode cX4_within 2 = .ok (.if_icmp .lt 12, 3) := by decide +kernel
theorem dX4_within_5 : decode cX4_within 5 = .ok (.iload_n 0, 1) := by decide +kernel
theorem dX4_within_6 : decode cX4_within 6 = .ok (.iload_n 2, 1) := by decide +kernel
theorem dX4_within_7 : decode cX4_within 7 = .ok (.if_icmp .gt 7, 3) := by decide +kernel
theorem dX4_within_10 : decode cX4_within 10 = .ok (.iconst 1, 1) := by decide +kernel
theorem dX4_within_11 : decode cX4_within 11 = .ok (.goto 4, 3) := by decide +kernel
theorem dX4_within_14 : decode cX4_within 14 = .ok (.iconst 0, 1) := by decide +kernel
theorem dX4_within_15 : decode cX4_within 15 = .ok (.ireturn, 1) := by decide +kernel
theorem dX4_isWord_0 : decode cX4_isWord 0 = .ok (.iload_n 0, 1) := by decide +kernel
theorem dX4_isWord_1 : decode cX4_isWord 1 = .ok (.iconst 0, 1) := by decide +kernel
theorem dX4_isWord_2 : decode cX4_isWord 2 = .ok (.bipush 39, 2) := by decide +kernel
theorem dX4_isWord_4 : decode cX4_isWord 4 = .ok (.invokestatic 66, 3) := by decide +kernel
theorem dX4_isWord_7 : decode cX4_isWord 7 = .ok (.ireturn, 1) := by decide +kernel
theorem dX4_isSetOfWords_0 : decode cX4_isSetOfWords 0 = .ok (.lload_n 0, 1) := by decide +kernel
theorem dX4_isSetOfWords_1 : decode cX4_isSetOfWords 1 = .ok (.lconst 0, 1) := by decide +kernel
theorem dX4_isSetOfWords_2 : decode cX4_isSetOfWords 2 = .ok (.lcmp, 1) := by decide +kernel
theorem dX4_isSetOfWords_3 : decode cX4_isSetOfWords 3 = .ok (.ifCond .lt 15, 3) := by decide +kernel
theorem dX4_isSetOfWords_6 : decode cX4_isSetOfWords 6 = .ok (.lload_n 0, 1) := by decide +kernel
theorem dX4_isSetOfWords_7 : decode cX4_isSetOfWords 7 = .ok (.ldc2_w 245, 3) := by decide +kernel
theorem dX4_isSetOfWords_10 : decode cX4_isSetOfWords 10 = .ok (.lcmp, 1) := by decide +kernel
theorem dX4_isSetOfWords_11 : decode cX4_isSetOfWords 11 = .ok (.ifCond .ge 7, 3) := by decide +kernel
theorem dX4_isSetOfWords_14 : decode cX4_isSetOfWords 14 = .ok (.iconst 1, 1) := by decide +kernel
theorem dX4_isSetOfWords_15 : decode cX4_isSetOfWords 15 = .ok (.goto 4, 3) := by decide +kernel
theorem dX4_isSetOfWords_18 : decode cX4_isSetOfWords 18 = .ok (.iconst 0, 1) := by decide +kernel
theorem dX4_isSetOfWords_19 : decode cX4_isSetOfWords 19 = .ok (.ireturn, 1) := by decide +kernel
theorem dX4_allValues_0 : decode cX4_allValues 0 = .ok (.iload_n 0, 1) := by decide +kernel
theorem dX4_allValues_1 : decode cX4_allValues 1 = .ok (.ifCond .lt 19, 3) := by decide +kernel
theorem dX4_allValues_4 : decode cX4_allValues 4 = .ok (.iload_n 0, 1) := by decide +kernel
theorem dX4_allValues_5 : decode cX4_allValues 5 = .ok (.getstatic 247, 3) := by decide +kernel
theorem dX4_allValues_8 : decode cX4_allValues 8 = .ok (.arraylength, 1) := by decide +kernel
theorem dX4_allValues_9 : decode cX4_allValues 9 = .ok (.if_icmp .ge 11, 3) := by decide +kernel
theorem dX4_allValues_12 : decode cX4_allValues 12 = .ok (.getstatic 247, 3) := by decide +kernel
theorem dX4_allValues_15 : decode cX4_allValues 15 = .ok (.iload_n 0, 1) := by decide +kernel
theorem dX4_allValues_16 : decode cX4_allValues 16 = .ok (.iaload, 1) := by decide +kernel
theorem dX4_allValues_17 : decode cX4_allValues 17 = .ok (.goto 4, 3) := by decide +kernel
theorem dX4_allValues_20 : decode cX4_allValues 20 = .ok (.iconst 0, 1) := by decide +kernel
theorem dX4_allValues_21 : decode cX4_allValues 21 = .ok (.ireturn, 1) := by decide +kernel
theorem dX4_isSetOfValues_0 : decode cX4_isSetOfValues 0 = .ok (.iload_n 1, 1) := by decide +kernel
theorem dX4_isSetOfValues_1 : decode cX4_isSetOfValues 1 = .ok (.ifCond .le 15, 3) := by decide +kernel
theorem dX4_isSetOfValues_4 : decode cX4_isSetOfValues 4 = .ok (.iload_n 1, 1) := by decide +kernel
theorem dX4_isSetOfValues_5 : decode cX4_isSetOfValues 5 = .ok (.iload_n 0, 1) := by decide +kernel
theorem dX4_isSetOfValues_6 : decode cX4_isSetOfValues 6 = .ok (.invokestatic 251, 3) := by decide +kernel
theorem dX4_isSetOfValues_9 : decode cX4_isSetOfValues 9 = .ok (.if_icmp .gt 7, 3) := by decide +kernel
theorem dX4_isSetOfValues_12 : decode cX4_isSetOfValues 12 = .ok (.iconst 1, 1) := by decide +kernel
theorem dX4_isSetOfValues_13 : decode cX4_isSetOfValues 13 = .ok (.goto 4, 3) := by decide +kernel
theorem dX4_isSetOfValues_16 : decode cX4_isSetOfValues 16 = .ok (.iconst 0, 1) := by decide +kernel
theorem dX4_isSetOfValues_17 : decode cX4_isSetOfValues 17 = .ok (.ireturn, 1) := by decide +kernel
theorem dX4_isValue_0 : decode cX4_isValue 0 = .ok (.iload_n 0, 1) := by decide +kernel
theorem dX4_isValue_1 : decode cX4_isValue 1 = .ok (.invokestatic 251, 3) := by decide +kernel
theorem dX4_isValue_4 : decode cX4_isValue 4 = .ok (.iload_n 1, 1) := by decide +kernel
theorem dX4_isValue_5 : decode cX4_isValue 5 = .ok (.invokestatic 105, 3) := by decide +kernel
theorem dX4_isValue_8 : decode cX4_isValue 8 = .ok (.iand, 1) := by decide +kernel
theorem dX4_isValue_9 : decode cX4_isValue 9 = .ok (.ifCond .eq 7, 3) := by decide +kernel
theorem dX4_isValue_12 : decode cX4_isValue 12 = .ok (.iconst 1, 1) := by decide +kernel
theorem dX4_isValue_13 : decode cX4_isValue 13 = .ok (.goto 4, 3) := by decide +kernel
theorem dX4_isValue_16 : decode cX4_isValue 16 = .ok (.iconst 0, 1) := by decide +kernel
theorem dX4_isValue_17 : decode cX4_isValue 17 = .ok (.ireturn, 1) := by decide +kernel
theorem dX4_isValueOrNone_0 : decode cX4_isValueOrNone 0 = .ok (.iload_n 1, 1) := by decide +kernel
theorem dX4_isValueOrNone_1 : decode cX4_isValueOrNone 1 = .ok (.iconst (-1), 1) := by decide +kernel
theorem dX4_isValueOrNone_2 : decode cX4_isValueOrNone 2 = .ok (.if_icmp .eq 11, 3) := by decide +kernel
theorem dX4_isValueOrNone_5 : decode cX4_isValueOrNone 5 = .ok (.iload_n 0, 1) := by decide +kernel
theorem dX4_isValueOrNone_6 : decode cX4_isValueOrNone 6 = .ok (.iload_n 1, 1) := by decide +kernel
theorem dX4_isValueOrNone_7 : decode cX4_isValueOrNone 7 = .ok (.invokestatic 173, 3) := by decide +kernel
theorem dX4_isValueOrNone_10 : decode cX4_isValueOrNone 10 = .ok (.ifCond .eq 7, 3) := by decide +kernel
theorem dX4_isValueOrNone_13 : decode cX4_isValueOrNone 13 = .ok (.iconst 1, 1) := by decide +kernel
theorem dX4_isValueOrNone_14 : decode cX4_isValueOrNone 14 = .ok (.goto 4, 3) := by decide +kernel
theorem dX4_isValueOrNone_17 : decode cX4_isValueOrNone 17 = .ok (.iconst 0, 1) := by decide +kernel
theorem dX4_isValueOrNone_18 : decode cX4_isValueOrNone 18 = .ok (.ireturn, 1) := by decide +kernel
theorem dX4_bit_0 : decode cX4_bit 0 = .ok (.iload_n 0, 1) := by decide +kernel
theorem dX4_bit_1 : decode cX4_bit 1 = .ok (.ifCond .lt 15, 3) := by decide +kernel
theorem dX4_bit_4 : decode cX4_bit 4 = .ok (.iload_n 0, 1) := by decide +kernel
theorem dX4_bit_5 : decode cX4_bit 5 = .ok (.bipush 30, 2) := by decide +kernel
theorem dX4_bit_7 : decode cX4_bit 7 = .ok (.if_icmp .gt 9, 3) := by decide +kernel
theorem dX4_bit_10 : decode cX4_bit 10 = .ok (.iconst 1, 1) := by decide +kernel
theorem dX4_bit_11 : decode cX4_bit 11 = .ok (.iload_n 0, 1) := by decide +kernel
theorem dX4_bit_12 : decode cX4_bit 12 = .ok (.ishl, 1) := by decide +kernel
theorem dX4_bit_13 : decode cX4_bit 13 = .ok (.goto 4, 3) := by decide +kernel
theorem dX4_bit_16 : decode cX4_bit 16 = .ok (.iconst 0, 1) := by decide +kernel
theorem dX4_bit_17 : decode cX4_bit 17 = .ok (.ireturn, 1) := by decide +kernel
theorem dX4_least_0 : decode cX4_least 0 = .ok (.iconst 0, 1) := by decide +kernel
theorem dX4_least_1 : decode cX4_least 1 = .ok (.istore_n 1, 1) := by decide +kernel
theorem dX4_least_2 : decode cX4_least 2 = .ok (.iload_n 1, 1) := by decide +kernel
theorem dX4_least_3 : decode cX4_least 3 = .ok (.bipush 30, 2) := by decide +kernel
theorem dX4_least_5 : decode cX4_least 5 = .ok (.if_icmp .gt 20, 3) := by decide +kernel
theorem dX4_least_8 : decode cX4_least 8 = .ok (.iload_n 0, 1) := by decide +kernel
theorem dX4_least_9 : decode cX4_least 9 = .ok (.iload_n 1, 1) := by decide +kernel
theorem dX4_least_10 : decode cX4_least 10 = .ok (.invokestatic 105, 3) := by decide +kernel
theorem dX4_least_13 : decode cX4_least 13 = .ok (.iand, 1) := by decide +kernel
theorem dX4_least_14 : decode cX4_least 14 = .ok (.ifCond .eq 5, 3) := by decide +kernel
theorem dX4_least_17 : decode cX4_least 17 = .ok (.iload_n 1, 1) := by decide +kernel
theorem dX4_least_18 : decode cX4_least 18 = .ok (.ireturn, 1) := by decide +kernel
theorem dX4_least_19 : decode cX4_least 19 = .ok (.iinc 1 1, 3) := by decide +kernel
theorem dX4_least_22 : decode cX4_least 22 = .ok (.goto (-20), 3) := by decide +kernel
theorem dX4_least_25 : decode cX4_least 25 = .ok (.iconst (-1), 1) := by decide +kernel
theorem dX4_least_26 : decode cX4_least 26 = .ok (.ireturn, 1) := by decide +kernel
theorem dX4_far_0 : decode cX4_far 0 = .ok (.lload_n 0, 1) := by decide +kernel
theorem dX4_far_1 : decode cX4_far 1 = .ok (.lload_n 2, 1) := by decide +kernel
theorem dX4_far_2 : decode cX4_far 2 = .ok (.lxor, 1) := by decide +kernel
theorem dX4_far_3 : decode cX4_far 3 = .ok (.invokestatic 254, 3) := by decide +kernel
theorem dX4_far_6 : decode cX4_far 6 = .ok (.ireturn, 1) := by decide +kernel
theorem dX4_keep_0 : decode cX4_keep 0 = .ok (.aload_n 0, 1) := by decide +kernel
theorem dX4_keep_1 : decode cX4_keep 1 = .ok (.getfield 35, 3) := by decide +kernel
theorem dX4_keep_4 : decode cX4_keep 4 = .ok (.aload_n 0, 1) := by decide +kernel
theorem dX4_keep_5 : decode cX4_keep 5 = .ok (.getfield 25, 3) := by decide +kernel
theorem dX4_keep_8 : decode cX4_keep 8 = .ok (.arraylength, 1) := by decide +kernel
theorem dX4_keep_9 : decode cX4_keep 9 = .ok (.if_icmp .ge 23, 3) := by decide +kernel
theorem dX4_keep_12 : decode cX4_keep 12 = .ok (.aload_n 0, 1) := by decide +kernel
theorem dX4_keep_13 : decode cX4_keep 13 = .ok (.getfield 25, 3) := by decide +kernel
theorem dX4_keep_16 : decode cX4_keep 16 = .ok (.aload_n 0, 1) := by decide +kernel
theorem dX4_keep_17 : decode cX4_keep 17 = .ok (.getfield 35, 3) := by decide +kernel
theorem dX4_keep_20 : decode cX4_keep 20 = .ok (.aload_n 1, 1) := by decide +kernel
theorem dX4_keep_21 : decode cX4_keep 21 = .ok (.aastore, 1) := by decide +kernel
theorem dX4_keep_22 : decode cX4_keep 22 = .ok (.aload_n 0, 1) := by decide +kernel
theorem dX4_keep_23 : decode cX4_keep 23 = .ok (.dup, 1) := by decide +kernel
theorem dX4_keep_24 : decode cX4_keep 24 = .ok (.getfield 35, 3) := by decide +kernel
theorem dX4_keep_27 : decode cX4_keep 27 = .ok (.iconst 1, 1) := by decide +kernel
theorem dX4_keep_28 : decode cX4_keep 28 = .ok (.iadd, 1) := by decide +kernel
theorem dX4_keep_29 : decode cX4_keep 29 = .ok (.putfield 35, 3) := by decide +kernel
end
section
theorem dX4_keep_32 : decode cX4_keep 32 = .ok (.aload_n 0, 1) := by decide +kernel
theorem dX4_keep_33 : decode cX4_keep 33 = .ok (.invokevirtual 60, 3) := by decide +kernel
theorem dX4_keep_36 : decode cX4_keep 36 = .ok (.return_, 1) := by decide +kernel
theorem dX4_endOf_0 : decode cX4_endOf 0 = .ok (.aload_n 0, 1) := by decide +kernel
theorem dX4_endOf_1 : decode cX4_endOf 1 = .ok (.iload_n 1, 1) := by decide +kernel
theorem dX4_endOf_2 : decode cX4_endOf 2 = .ok (.invokevirtual 120, 3) := by decide +kernel
theorem dX4_endOf_5 : decode cX4_endOf 5 = .ok (.astore_n 2, 1) := by decide +kernel
theorem dX4_endOf_6 : decode cX4_endOf 6 = .ok (.aload_n 2, 1) := by decide +kernel
theorem dX4_endOf_7 : decode cX4_endOf 7 = .ok (.ifnonnull 7, 3) := by decide +kernel
theorem dX4_endOf_10 : decode cX4_endOf 10 = .ok (.aconst_null, 1) := by decide +kernel
theorem dX4_endOf_11 : decode cX4_endOf 11 = .ok (.goto 11, 3) := by decide +kernel
theorem dX4_endOf_14 : decode cX4_endOf 14 = .ok (.aload_n 0, 1) := by decide +kernel
theorem dX4_endOf_15 : decode cX4_endOf 15 = .ok (.aload_n 2, 1) := by decide +kernel
theorem dX4_endOf_16 : decode cX4_endOf 16 = .ok (.getfield 155, 3) := by decide +kernel
theorem dX4_endOf_19 : decode cX4_endOf 19 = .ok (.invokevirtual 120, 3) := by decide +kernel
theorem dX4_endOf_22 : decode cX4_endOf 22 = .ok (.areturn, 1) := by decide +kernel
theorem dX4_leadOn_0 : decode cX4_leadOn 0 = .ok (.iconst 0, 1) := by decide +kernel
theorem dX4_leadOn_1 : decode cX4_leadOn 1 = .ok (.istore_n 3, 1) := by decide +kernel
theorem dX4_leadOn_2 : decode cX4_leadOn 2 = .ok (.iload_n 3, 1) := by decide +kernel
theorem dX4_leadOn_3 : decode cX4_leadOn 3 = .ok (.aload_n 0, 1) := by decide +kernel
theorem dX4_leadOn_4 : decode cX4_leadOn 4 = .ok (.getfield 35, 3) := by decide +kernel
theorem dX4_leadOn_7 : decode cX4_leadOn 7 = .ok (.if_icmp .ge 36, 3) := by decide +kernel
theorem dX4_leadOn_10 : decode cX4_leadOn 10 = .ok (.aload_n 0, 1) := by decide +kernel
theorem dX4_leadOn_11 : decode cX4_leadOn 11 = .ok (.iload_n 3, 1) := by decide +kernel
theorem dX4_leadOn_12 : decode cX4_leadOn 12 = .ok (.invokevirtual 120, 3) := by decide +kernel
theorem dX4_leadOn_15 : decode cX4_leadOn 15 = .ok (.astore 4, 2) := by decide +kernel
theorem dX4_leadOn_17 : decode cX4_leadOn 17 = .ok (.aload 4, 2) := by decide +kernel
theorem dX4_leadOn_19 : decode cX4_leadOn 19 = .ok (.ifnull 18, 3) := by decide +kernel
theorem dX4_leadOn_22 : decode cX4_leadOn 22 = .ok (.aload 4, 2) := by decide +kernel
theorem dX4_leadOn_24 : decode cX4_leadOn 24 = .ok (.getfield 155, 3) := by decide +kernel
theorem dX4_leadOn_27 : decode cX4_leadOn 27 = .ok (.iload_n 1, 1) := by decide +kernel
theorem dX4_leadOn_28 : decode cX4_leadOn 28 = .ok (.if_icmp .ne 9, 3) := by decide +kernel
theorem dX4_leadOn_31 : decode cX4_leadOn 31 = .ok (.aload 4, 2) := by decide +kernel
theorem dX4_leadOn_33 : decode cX4_leadOn 33 = .ok (.iload_n 2, 1) := by decide +kernel
theorem dX4_leadOn_34 : decode cX4_leadOn 34 = .ok (.putfield 155, 3) := by decide +kernel
theorem dX4_leadOn_37 : decode cX4_leadOn 37 = .ok (.iinc 3 1, 3) := by decide +kernel
theorem dX4_leadOn_40 : decode cX4_leadOn 40 = .ok (.goto (-38), 3) := by decide +kernel
theorem dX4_leadOn_43 : decode cX4_leadOn 43 = .ok (.return_, 1) := by decide +kernel
theorem dX4_partNow_0 : decode cX4_partNow 0 = .ok (.aload_n 0, 1) := by decide +kernel
theorem dX4_partNow_1 : decode cX4_partNow 1 = .ok (.aload_n 1, 1) := by decide +kernel
theorem dX4_partNow_2 : decode cX4_partNow 2 = .ok (.iload_n 2, 1) := by decide +kernel
theorem dX4_partNow_3 : decode cX4_partNow 3 = .ok (.invokevirtual 259, 3) := by decide +kernel
theorem dX4_partNow_6 : decode cX4_partNow 6 = .ok (.invokevirtual 133, 3) := by decide +kernel
theorem dX4_partNow_9 : decode cX4_partNow 9 = .ok (.astore_n 3, 1) := by decide +kernel
theorem dX4_partNow_10 : decode cX4_partNow 10 = .ok (.aload_n 3, 1) := by decide +kernel
theorem dX4_partNow_11 : decode cX4_partNow 11 = .ok (.ifnonnull 7, 3) := by decide +kernel
theorem dX4_partNow_14 : decode cX4_partNow 14 = .ok (.iconst (-1), 1) := by decide +kernel
theorem dX4_partNow_15 : decode cX4_partNow 15 = .ok (.goto 7, 3) := by decide +kernel
theorem dX4_partNow_18 : decode cX4_partNow 18 = .ok (.aload_n 3, 1) := by decide +kernel
theorem dX4_partNow_19 : decode cX4_partNow 19 = .ok (.getfield 99, 3) := by decide +kernel
theorem dX4_partNow_22 : decode cX4_partNow 22 = .ok (.ireturn, 1) := by decide +kernel
theorem dX4_areAllPlain_0 : decode cX4_areAllPlain 0 = .ok (.iconst 0, 1) := by decide +kernel
theorem dX4_areAllPlain_1 : decode cX4_areAllPlain 1 = .ok (.istore_n 2, 1) := by decide +kernel
theorem dX4_areAllPlain_2 : decode cX4_areAllPlain 2 = .ok (.iload_n 2, 1) := by decide +kernel
theorem dX4_areAllPlain_3 : decode cX4_areAllPlain 3 = .ok (.aload_n 0, 1) := by decide +kernel
theorem dX4_areAllPlain_4 : decode cX4_areAllPlain 4 = .ok (.getfield 35, 3) := by decide +kernel
theorem dX4_areAllPlain_7 : decode cX4_areAllPlain 7 = .ok (.if_icmp .ge 37, 3) := by decide +kernel
theorem dX4_areAllPlain_10 : decode cX4_areAllPlain 10 = .ok (.aload_n 0, 1) := by decide +kernel
theorem dX4_areAllPlain_11 : decode cX4_areAllPlain 11 = .ok (.iload_n 2, 1) := by decide +kernel
theorem dX4_areAllPlain_12 : decode cX4_areAllPlain 12 = .ok (.invokevirtual 120, 3) := by decide +kernel
theorem dX4_areAllPlain_15 : decode cX4_areAllPlain 15 = .ok (.astore_n 3, 1) := by decide +kernel
theorem dX4_areAllPlain_16 : decode cX4_areAllPlain 16 = .ok (.aload_n 3, 1) := by decide +kernel
theorem dX4_areAllPlain_17 : decode cX4_areAllPlain 17 = .ok (.ifnull 21, 3) := by decide +kernel
theorem dX4_areAllPlain_20 : decode cX4_areAllPlain 20 = .ok (.iload_n 1, 1) := by decide +kernel
theorem dX4_areAllPlain_21 : decode cX4_areAllPlain 21 = .ok (.iload_n 2, 1) := by decide +kernel
theorem dX4_areAllPlain_22 : decode cX4_areAllPlain 22 = .ok (.invokestatic 105, 3) := by decide +kernel
theorem dX4_areAllPlain_25 : decode cX4_areAllPlain 25 = .ok (.iand, 1) := by decide +kernel
theorem dX4_areAllPlain_26 : decode cX4_areAllPlain 26 = .ok (.ifCond .eq 12, 3) := by decide +kernel
theorem dX4_areAllPlain_29 : decode cX4_areAllPlain 29 = .ok (.aload_n 3, 1) := by decide +kernel
theorem dX4_areAllPlain_30 : decode cX4_areAllPlain 30 = .ok (.invokevirtual 124, 3) := by decide +kernel
theorem dX4_areAllPlain_33 : decode cX4_areAllPlain 33 = .ok (.ifCond .eq 5, 3) := by decide +kernel
theorem dX4_areAllPlain_36 : decode cX4_areAllPlain 36 = .ok (.iconst 0, 1) := by decide +kernel
theorem dX4_areAllPlain_37 : decode cX4_areAllPlain 37 = .ok (.ireturn, 1) := by decide +kernel
theorem dX4_areAllPlain_38 : decode cX4_areAllPlain 38 = .ok (.iinc 2 1, 3) := by decide +kernel
theorem dX4_areAllPlain_41 : decode cX4_areAllPlain 41 = .ok (.goto (-39), 3) := by decide +kernel
theorem dX4_areAllPlain_44 : decode cX4_areAllPlain 44 = .ok (.iconst 1, 1) := by decide +kernel
theorem dX4_areAllPlain_45 : decode cX4_areAllPlain 45 = .ok (.ireturn, 1) := by decide +kernel
theorem dX4_mayMelt_0 : decode cX4_mayMelt 0 = .ok (.aload_n 0, 1) := by decide +kernel
theorem dX4_mayMelt_1 : decode cX4_mayMelt 1 = .ok (.invokevirtual 124, 3) := by decide +kernel
theorem dX4_mayMelt_4 : decode cX4_mayMelt 4 = .ok (.ifCond .ne 50, 3) := by decide +kernel
theorem dX4_mayMelt_7 : decode cX4_mayMelt 7 = .ok (.aload_n 1, 1) := by decide +kernel
theorem dX4_mayMelt_8 : decode cX4_mayMelt 8 = .ok (.invokevirtual 124, 3) := by decide +kernel
theorem dX4_mayMelt_11 : decode cX4_mayMelt 11 = .ok (.ifCond .ne 43, 3) := by decide +kernel
theorem dX4_mayMelt_14 : decode cX4_mayMelt 14 = .ok (.aload_n 0, 1) := by decide +kernel
theorem dX4_mayMelt_15 : decode cX4_mayMelt 15 = .ok (.getfield 158, 3) := by decide +kernel
theorem dX4_mayMelt_18 : decode cX4_mayMelt 18 = .ok (.aload_n 1, 1) := by decide +kernel
theorem dX4_mayMelt_19 : decode cX4_mayMelt 19 = .ok (.getfield 158, 3) := by decide +kernel
theorem dX4_mayMelt_22 : decode cX4_mayMelt 22 = .ok (.if_icmp .ne 32, 3) := by decide +kernel
theorem dX4_mayMelt_25 : decode cX4_mayMelt 25 = .ok (.aload_n 0, 1) := by decide +kernel
theorem dX4_mayMelt_26 : decode cX4_mayMelt 26 = .ok (.aload_n 1, 1) := by decide +kernel
theorem dX4_mayMelt_27 : decode cX4_mayMelt 27 = .ok (.invokestatic 262, 3) := by decide +kernel
theorem dX4_mayMelt_30 : decode cX4_mayMelt 30 = .ok (.iconst 2, 1) := by decide +kernel
theorem dX4_mayMelt_31 : decode cX4_mayMelt 31 = .ok (.if_icmp .ge 19, 3) := by decide +kernel
theorem dX4_mayMelt_34 : decode cX4_mayMelt 34 = .ok (.aload_n 1, 1) := by decide +kernel
theorem dX4_mayMelt_35 : decode cX4_mayMelt 35 = .ok (.aload_n 0, 1) := by decide +kernel
theorem dX4_mayMelt_36 : decode cX4_mayMelt 36 = .ok (.invokestatic 266, 3) := by decide +kernel
theorem dX4_mayMelt_39 : decode cX4_mayMelt 39 = .ok (.ifCond .ne 11, 3) := by decide +kernel
theorem dX4_mayMelt_42 : decode cX4_mayMelt 42 = .ok (.aload_n 0, 1) := by decide +kernel
theorem dX4_mayMelt_43 : decode cX4_mayMelt 43 = .ok (.aload_n 1, 1) := by decide +kernel
theorem dX4_mayMelt_44 : decode cX4_mayMelt 44 = .ok (.invokestatic 266, 3) := by decide +kernel
theorem dX4_mayMelt_47 : decode cX4_mayMelt 47 = .ok (.ifCond .eq 7, 3) := by decide +kernel
theorem dX4_mayMelt_50 : decode cX4_mayMelt 50 = .ok (.iconst 1, 1) := by decide +kernel
theorem dX4_mayMelt_51 : decode cX4_mayMelt 51 = .ok (.goto 4, 3) := by decide +kernel
theorem dX4_mayMelt_54 : decode cX4_mayMelt 54 = .ok (.iconst 0, 1) := by decide +kernel
theorem dX4_mayMelt_55 : decode cX4_mayMelt 55 = .ok (.ireturn, 1) := by decide +kernel
theorem dX4_likeSets_0 : decode cX4_likeSets 0 = .ok (.iconst 0, 1) := by decide +kernel
theorem dX4_likeSets_1 : decode cX4_likeSets 1 = .ok (.istore_n 2, 1) := by decide +kernel
theorem dX4_likeSets_2 : decode cX4_likeSets 2 = .ok (.iconst 0, 1) := by decide +kernel
theorem dX4_likeSets_3 : decode cX4_likeSets 3 = .ok (.istore_n 3, 1) := by decide +kernel
theorem dX4_likeSets_4 : decode cX4_likeSets 4 = .ok (.iload_n 3, 1) := by decide +kernel
theorem dX4_likeSets_5 : decode cX4_likeSets 5 = .ok (.iconst 3, 1) := by decide +kernel
theorem dX4_likeSets_6 : decode cX4_likeSets 6 = .ok (.if_icmp .ge 25, 3) := by decide +kernel
theorem dX4_likeSets_9 : decode cX4_likeSets 9 = .ok (.aload_n 0, 1) := by decide +kernel
theorem dX4_likeSets_10 : decode cX4_likeSets 10 = .ok (.iload_n 3, 1) := by decide +kernel
theorem dX4_likeSets_11 : decode cX4_likeSets 11 = .ok (.invokevirtual 161, 3) := by decide +kernel
theorem dX4_likeSets_14 : decode cX4_likeSets 14 = .ok (.aload_n 1, 1) := by decide +kernel
theorem dX4_likeSets_15 : decode cX4_likeSets 15 = .ok (.iload_n 3, 1) := by decide +kernel
theorem dX4_likeSets_16 : decode cX4_likeSets 16 = .ok (.invokevirtual 161, 3) := by decide +kernel
theorem dX4_likeSets_19 : decode cX4_likeSets 19 = .ok (.if_icmp .ne 6, 3) := by decide +kernel
theorem dX4_likeSets_22 : decode cX4_likeSets 22 = .ok (.iinc 2 1, 3) := by decide +kernel
theorem dX4_likeSets_25 : decode cX4_likeSets 25 = .ok (.iinc 3 1, 3) := by decide +kernel
theorem dX4_likeSets_28 : decode cX4_likeSets 28 = .ok (.goto (-24), 3) := by decide +kernel
theorem dX4_likeSets_31 : decode cX4_likeSets 31 = .ok (.iload_n 2, 1) := by decide +kernel
theorem dX4_likeSets_32 : decode cX4_likeSets 32 = .ok (.ireturn, 1) := by decide +kernel
theorem dX4_isInside_0 : decode cX4_isInside 0 = .ok (.iconst 0, 1) := by decide +kernel
theorem dX4_isInside_1 : decode cX4_isInside 1 = .ok (.istore_n 2, 1) := by decide +kernel
theorem dX4_isInside_2 : decode cX4_isInside 2 = .ok (.iload_n 2, 1) := by decide +kernel
theorem dX4_isInside_3 : decode cX4_isInside 3 = .ok (.iconst 3, 1) := by decide +kernel
theorem dX4_isInside_4 : decode cX4_isInside 4 = .ok (.if_icmp .ge 27, 3) := by decide +kernel
theorem dX4_isInside_7 : decode cX4_isInside 7 = .ok (.aload_n 0, 1) := by decide +kernel
theorem dX4_isInside_8 : decode cX4_isInside 8 = .ok (.iload_n 2, 1) := by decide +kernel
theorem dX4_isInside_9 : decode cX4_isInside 9 = .ok (.invokevirtual 161, 3) := by decide +kernel
theorem dX4_isInside_12 : decode cX4_isInside 12 = .ok (.aload_n 1, 1) := by decide +kernel
theorem dX4_isInside_13 : decode cX4_isInside 13 = .ok (.iload_n 2, 1) := by decide +kernel
theorem dX4_isInside_14 : decode cX4_isInside 14 = .ok (.invokevirtual 161, 3) := by decide +kernel
theorem dX4_isInside_17 : decode cX4_isInside 17 = .ok (.iconst (-1), 1) := by decide +kernel
theorem dX4_isInside_18 : decode cX4_isInside 18 = .ok (.ixor, 1) := by decide +kernel
theorem dX4_isInside_19 : decode cX4_isInside 19 = .ok (.iand, 1) := by decide +kernel
theorem dX4_isInside_20 : decode cX4_isInside 20 = .ok (.ifCond .eq 5, 3) := by decide +kernel
theorem dX4_isInside_23 : decode cX4_isInside 23 = .ok (.iconst 0, 1) := by decide +kernel
theorem dX4_isInside_24 : decode cX4_isInside 24 = .ok (.ireturn, 1) := by decide +kernel
theorem dX4_isInside_25 : decode cX4_isInside 25 = .ok (.iinc 2 1, 3) := by decide +kernel
theorem dX4_isInside_28 : decode cX4_isInside 28 = .ok (.goto (-26), 3) := by decide +kernel
theorem dX4_isInside_31 : decode cX4_isInside 31 = .ok (.iconst 1, 1) := by decide +kernel
theorem dX4_isInside_32 : decode cX4_isInside 32 = .ok (.ireturn, 1) := by decide +kernel
theorem dX4_settle_0 : decode cX4_settle 0 = .ok (.iconst 0, 1) := by decide +kernel
theorem dX4_settle_1 : decode cX4_settle 1 = .ok (.istore_n 1, 1) := by decide +kernel
theorem dX4_settle_2 : decode cX4_settle 2 = .ok (.iload_n 1, 1) := by decide +kernel
theorem dX4_settle_3 : decode cX4_settle 3 = .ok (.aload_n 0, 1) := by decide +kernel
theorem dX4_settle_4 : decode cX4_settle 4 = .ok (.getfield 35, 3) := by decide +kernel
theorem dX4_settle_7 : decode cX4_settle 7 = .ok (.if_icmp .ge 18, 3) := by decide +kernel
theorem dX4_settle_10 : decode cX4_settle 10 = .ok (.aload_n 0, 1) := by decide +kernel
theorem dX4_settle_11 : decode cX4_settle 11 = .ok (.aload_n 0, 1) := by decide +kernel
theorem dX4_settle_12 : decode cX4_settle 12 = .ok (.iload_n 1, 1) := by decide +kernel
theorem dX4_settle_13 : decode cX4_settle 13 = .ok (.invokevirtual 120, 3) := by decide +kernel
theorem dX4_settle_16 : decode cX4_settle 16 = .ok (.invokevirtual 269, 3) := by decide +kernel
theorem dX4_settle_19 : decode cX4_settle 19 = .ok (.iinc 1 1, 3) := by decide +kernel
theorem dX4_settle_22 : decode cX4_settle 22 = .ok (.goto (-20), 3) := by decide +kernel
theorem dX4_settle_25 : decode cX4_settle 25 = .ok (.aload_n 0, 1) := by decide +kernel
theorem dX4_settle_26 : decode cX4_settle 26 = .ok (.invokevirtual 272, 3) := by decide +kernel
theorem dX4_settle_29 : decode cX4_settle 29 = .ok (.iconst 0, 1) := by decide +kernel
theorem dX4_settle_30 : decode cX4_settle 30 = .ok (.istore_n 1, 1) := by decide +kernel
theorem dX4_settle_31 : decode cX4_settle 31 = .ok (.iload_n 1, 1) := by decide +kernel
theorem dX4_settle_32 : decode cX4_settle 32 = .ok (.aload_n 0, 1) := by decide +kernel
theorem dX4_settle_33 : decode cX4_settle 33 = .ok (.getfield 35, 3) := by decide +kernel
theorem dX4_settle_36 : decode cX4_settle 36 = .ok (.if_icmp .ge 18, 3) := by decide +kernel
theorem dX4_settle_39 : decode cX4_settle 39 = .ok (.aload_n 0, 1) := by decide +kernel
theorem dX4_settle_40 : decode cX4_settle 40 = .ok (.aload_n 0, 1) := by decide +kernel
theorem dX4_settle_41 : decode cX4_settle 41 = .ok (.iload_n 1, 1) := by decide +kernel
theorem dX4_settle_42 : decode cX4_settle 42 = .ok (.invokevirtual 120, 3) := by decide +kernel
theorem dX4_settle_45 : decode cX4_settle 45 = .ok (.invokevirtual 275, 3) := by decide +kernel
theorem dX4_settle_48 : decode cX4_settle 48 = .ok (.iinc 1 1, 3) := by decide +kernel
theorem dX4_settle_51 : decode cX4_settle 51 = .ok (.goto (-20), 3) := by decide +kernel
theorem dX4_settle_54 : decode cX4_settle 54 = .ok (.iconst 0, 1) := by decide +kernel
theorem dX4_settle_55 : decode cX4_settle 55 = .ok (.istore_n 1, 1) := by decide +kernel
theorem dX4_settle_56 : decode cX4_settle 56 = .ok (.iload_n 1, 1) := by decide +kernel
theorem dX4_settle_57 : decode cX4_settle 57 = .ok (.aload_n 0, 1) := by decide +kernel
theorem dX4_settle_58 : decode cX4_settle 58 = .ok (.getfield 39, 3) := by decide +kernel
theorem dX4_settle_61 : decode cX4_settle 61 = .ok (.if_icmp .ge 34, 3) := by decide +kernel
theorem dX4_settle_64 : decode cX4_settle 64 = .ok (.aload_n 0, 1) := by decide +kernel
theorem dX4_settle_65 : decode cX4_settle 65 = .ok (.iload_n 1, 1) := by decide +kernel
theorem dX4_settle_66 : decode cX4_settle 66 = .ok (.invokevirtual 207, 3) := by decide +kernel
theorem dX4_settle_69 : decode cX4_settle 69 = .ok (.astore_n 2, 1) := by decide +kernel
theorem dX4_settle_70 : decode cX4_settle 70 = .ok (.aload_n 2, 1) := by decide +kernel
theorem dX4_settle_71 : decode cX4_settle 71 = .ok (.ifnull 18, 3) := by decide +kernel
theorem dX4_settle_74 : decode cX4_settle 74 = .ok (.aload_n 2, 1) := by decide +kernel
theorem dX4_settle_75 : decode cX4_settle 75 = .ok (.aload_n 0, 1) := by decide +kernel
theorem dX4_settle_76 : decode cX4_settle 76 = .ok (.getfield 10, 3) := by decide +kernel
theorem dX4_settle_79 : decode cX4_settle 79 = .ok (.aload_n 2, 1) := by decide +kernel
theorem dX4_settle_80 : decode cX4_settle 80 = .ok (.getfield 278, 3) := by decide +kernel
theorem dX4_settle_83 : decode cX4_settle 83 = .ok (.invokevirtual 279, 3) := by decide +kernel
theorem dX4_settle_86 : decode cX4_settle 86 = .ok (.putfield 215, 3) := by decide +kernel
theorem dX4_settle_89 : decode cX4_settle 89 = .ok (.iinc 1 1, 3) := by decide +kernel
theorem dX4_settle_92 : decode cX4_settle 92 = .ok (.goto (-36), 3) := by decide +kernel
theorem dX4_settle_95 : decode cX4_settle 95 = .ok (.return_, 1) := by decide +kernel
theorem dX4_settlePlain_0 : decode cX4_settlePlain 0 = .ok (.aload_n 1, 1) := by decide +kernel
theorem dX4_settlePlain_1 : decode cX4_settlePlain 1 = .ok (.ifnull 10, 3) := by decide +kernel
theorem dX4_settlePlain_4 : decode cX4_settlePlain 4 = .ok (.aload_n 1, 1) := by decide +kernel
theorem dX4_settlePlain_5 : decode cX4_settlePlain 5 = .ok (.getfield 282, 3) := by decide +kernel
theorem dX4_settlePlain_8 : decode cX4_settlePlain 8 = .ok (.ifCond .eq 4, 3) := by decide +kernel
theorem dX4_settlePlain_11 : decode cX4_settlePlain 11 = .ok (.return_, 1) := by decide +kernel
theorem dX4_settlePlain_12 : decode cX4_settlePlain 12 = .ok (.aload_n 1, 1) := by decide +kernel
theorem dX4_settlePlain_13 : decode cX4_settlePlain 13 = .ok (.aload_n 0, 1) := by decide +kernel
theorem dX4_settlePlain_14 : decode cX4_settlePlain 14 = .ok (.getfield 19, 3) := by decide +kernel
theorem dX4_settlePlain_17 : decode cX4_settlePlain 17 = .ok (.aload_n 1, 1) := by decide +kernel
theorem dX4_settlePlain_18 : decode cX4_settlePlain 18 = .ok (.getfield 127, 3) := by decide +kernel
theorem dX4_settlePlain_21 : decode cX4_settlePlain 21 = .ok (.aload_n 1, 1) := by decide +kernel
theorem dX4_settlePlain_22 : decode cX4_settlePlain 22 = .ok (.getfield 92, 3) := by decide +kernel
theorem dX4_settlePlain_25 : decode cX4_settlePlain 25 = .ok (.invokevirtual 285, 3) := by decide +kernel
theorem dX4_settlePlain_28 : decode cX4_settlePlain 28 = .ok (.putfield 288, 3) := by decide +kernel
theorem dX4_settlePlain_31 : decode cX4_settlePlain 31 = .ok (.aload_n 1, 1) := by decide +kernel
theorem dX4_settlePlain_32 : decode cX4_settlePlain 32 = .ok (.aload_n 0, 1) := by decide +kernel
theorem dX4_settlePlain_33 : decode cX4_settlePlain 33 = .ok (.getfield 10, 3) := by decide +kernel
theorem dX4_settlePlain_36 : decode cX4_settlePlain 36 = .ok (.aload_n 1, 1) := by decide +kernel
theorem dX4_settlePlain_37 : decode cX4_settlePlain 37 = .ok (.getfield 81, 3) := by decide +kernel
theorem dX4_settlePlain_40 : decode cX4_settlePlain 40 = .ok (.invokevirtual 279, 3) := by decide +kernel
theorem dX4_settlePlain_43 : decode cX4_settlePlain 43 = .ok (.putfield 292, 3) := by decide +kernel
theorem dX4_settlePlain_46 : decode cX4_settlePlain 46 = .ok (.return_, 1) := by decide +kernel
theorem dX4_settleUnder_0 : decode cX4_settleUnder 0 = .ok (.iconst 0, 1) := by decide +kernel
theorem dX4_settleUnder_1 : decode cX4_settleUnder 1 = .ok (.istore_n 1, 1) := by decide +kernel
theorem dX4_settleUnder_2 : decode cX4_settleUnder 2 = .ok (.iload_n 1, 1) := by decide +kernel
theorem dX4_settleUnder_3 : decode cX4_settleUnder 3 = .ok (.aload_n 0, 1) := by decide +kernel
theorem dX4_settleUnder_4 : decode cX4_settleUnder 4 = .ok (.getfield 35, 3) := by decide +kernel
theorem dX4_settleUnder_7 : decode cX4_settleUnder 7 = .ok (.if_icmp .ge 24, 3) := by decide +kernel
theorem dX4_settleUnder_10 : decode cX4_settleUnder 10 = .ok (.aload_n 0, 1) := by decide +kernel
theorem dX4_settleUnder_11 : decode cX4_settleUnder 11 = .ok (.iload_n 1, 1) := by decide +kernel
theorem dX4_settleUnder_12 : decode cX4_settleUnder 12 = .ok (.invokevirtual 120, 3) := by decide +kernel
theorem dX4_settleUnder_15 : decode cX4_settleUnder 15 = .ok (.astore_n 2, 1) := by decide +kernel
theorem dX4_settleUnder_16 : decode cX4_settleUnder 16 = .ok (.aload_n 2, 1) := by decide +kernel
theorem dX4_settleUnder_17 : decode cX4_settleUnder 17 = .ok (.ifnull 8, 3) := by decide +kernel
theorem dX4_settleUnder_20 : decode cX4_settleUnder 20 = .ok (.aload_n 2, 1) := by decide +kernel
theorem dX4_settleUnder_21 : decode cX4_settleUnder 21 = .ok (.iconst 0, 1) := by decide +kernel
theorem dX4_settleUnder_22 : decode cX4_settleUnder 22 = .ok (.putfield 139, 3) := by decide +kernel
theorem dX4_settleUnder_25 : decode cX4_settleUnder 25 = .ok (.iinc 1 1, 3) := by decide +kernel
theorem dX4_settleUnder_28 : decode cX4_settleUnder 28 = .ok (.goto (-26), 3) := by decide +kernel
theorem dX4_settleUnder_31 : decode cX4_settleUnder 31 = .ok (.iconst 0, 1) := by decide +kernel
theorem dX4_settleUnder_32 : decode cX4_settleUnder 32 = .ok (.istore_n 1, 1) := by decide +kernel
theorem dX4_settleUnder_33 : decode cX4_settleUnder 33 = .ok (.iload_n 1, 1) := by decide +kernel
theorem dX4_settleUnder_34 : decode cX4_settleUnder 34 = .ok (.bipush 24, 2) := by decide +kernel
theorem dX4_settleUnder_36 : decode cX4_settleUnder 36 = .ok (.if_icmp .ge 34, 3) := by decide +kernel
theorem dX4_settleUnder_39 : decode cX4_settleUnder 39 = .ok (.iconst 0, 1) := by decide +kernel
theorem dX4_settleUnder_40 : decode cX4_settleUnder 40 = .ok (.istore_n 2, 1) := by decide +kernel
theorem dX4_settleUnder_41 : decode cX4_settleUnder 41 = .ok (.iload_n 2, 1) := by decide +kernel
theorem dX4_settleUnder_42 : decode cX4_settleUnder 42 = .ok (.aload_n 0, 1) := by decide +kernel
theorem dX4_settleUnder_43 : decode cX4_settleUnder 43 = .ok (.getfield 35, 3) := by decide +kernel
theorem dX4_settleUnder_46 : decode cX4_settleUnder 46 = .ok (.if_icmp .ge 18, 3) := by decide +kernel
theorem dX4_settleUnder_49 : decode cX4_settleUnder 49 = .ok (.aload_n 0, 1) := by decide +kernel
theorem dX4_settleUnder_50 : decode cX4_settleUnder 50 = .ok (.aload_n 0, 1) := by decide +kernel
theorem dX4_settleUnder_51 : decode cX4_settleUnder 51 = .ok (.iload_n 2, 1) := by decide +kernel
theorem dX4_settleUnder_52 : decode cX4_settleUnder 52 = .ok (.invokevirtual 120, 3) := by decide +kernel
theorem dX4_settleUnder_55 : decode cX4_settleUnder 55 = .ok (.invokevirtual 293, 3) := by decide +kernel
theorem dX4_settleUnder_58 : decode cX4_settleUnder 58 = .ok (.iinc 2 1, 3) := by decide +kernel
theorem dX4_settleUnder_61 : decode cX4_settleUnder 61 = .ok (.goto (-20), 3) := by decide +kernel
theorem dX4_settleUnder_64 : decode cX4_settleUnder 64 = .ok (.iinc 1 1, 3) := by decide +kernel
theorem dX4_settleUnder_67 : decode cX4_settleUnder 67 = .ok (.goto (-34), 3) := by decide +kernel
theorem dX4_settleUnder_70 : decode cX4_settleUnder 70 = .ok (.return_, 1) := by decide +kernel
theorem dX4_widenUnder_0 : decode cX4_widenUnder 0 = .ok (.iconst 0, 1) := by decide +kernel
theorem dX4_widenUnder_1 : decode cX4_widenUnder 1 = .ok (.istore_n 2, 1) := by decide +kernel
theorem dX4_widenUnder_2 : decode cX4_widenUnder 2 = .ok (.aload_n 1, 1) := by decide +kernel
theorem dX4_widenUnder_3 : decode cX4_widenUnder 3 = .ok (.ifnull 49, 3) := by decide +kernel
theorem dX4_widenUnder_6 : decode cX4_widenUnder 6 = .ok (.iload_n 2, 1) := by decide +kernel
theorem dX4_widenUnder_7 : decode cX4_widenUnder 7 = .ok (.iconst 4, 1) := by decide +kernel
theorem dX4_widenUnder_8 : decode cX4_widenUnder 8 = .ok (.if_icmp .ge 44, 3) := by decide +kernel
theorem dX4_widenUnder_11 : decode cX4_widenUnder 11 = .ok (.aload_n 0, 1) := by decide +kernel
theorem dX4_widenUnder_12 : decode cX4_widenUnder 12 = .ok (.aload_n 1, 1) := by decide +kernel
theorem dX4_widenUnder_13 : decode cX4_widenUnder 13 = .ok (.iload_n 2, 1) := by decide +kernel
theorem dX4_widenUnder_14 : decode cX4_widenUnder 14 = .ok (.invokevirtual 259, 3) := by decide +kernel
theorem dX4_widenUnder_17 : decode cX4_widenUnder 17 = .ok (.invokevirtual 133, 3) := by decide +kernel
theorem dX4_widenUnder_20 : decode cX4_widenUnder 20 = .ok (.astore_n 3, 1) := by decide +kernel
theorem dX4_widenUnder_21 : decode cX4_widenUnder 21 = .ok (.aload_n 3, 1) := by decide +kernel
theorem dX4_widenUnder_22 : decode cX4_widenUnder 22 = .ok (.ifnull 24, 3) := by decide +kernel
theorem dX4_widenUnder_25 : decode cX4_widenUnder 25 = .ok (.aload_n 1, 1) := by decide +kernel
theorem dX4_widenUnder_26 : decode cX4_widenUnder 26 = .ok (.dup, 1) := by decide +kernel
theorem dX4_widenUnder_27 : decode cX4_widenUnder 27 = .ok (.getfield 139, 3) := by decide +kernel
theorem dX4_widenUnder_30 : decode cX4_widenUnder 30 = .ok (.aload_n 3, 1) := by decide +kernel
theorem dX4_widenUnder_31 : decode cX4_widenUnder 31 = .ok (.getfield 99, 3) := by decide +kernel
theorem dX4_widenUnder_34 : decode cX4_widenUnder 34 = .ok (.invokestatic 105, 3) := by decide +kernel
theorem dX4_widenUnder_37 : decode cX4_widenUnder 37 = .ok (.aload_n 3, 1) := by decide +kernel
theorem dX4_widenUnder_38 : decode cX4_widenUnder 38 = .ok (.getfield 139, 3) := by decide +kernel
theorem dX4_widenUnder_41 : decode cX4_widenUnder 41 = .ok (.ior, 1) := by decide +kernel
theorem dX4_widenUnder_42 : decode cX4_widenUnder 42 = .ok (.ior, 1) := by decide +kernel
theorem dX4_widenUnder_43 : decode cX4_widenUnder 43 = .ok (.putfield 139, 3) := by decide +kernel
theorem dX4_widenUnder_46 : decode cX4_widenUnder 46 = .ok (.iinc 2 1, 3) := by decide +kernel
theorem dX4_widenUnder_49 : decode cX4_widenUnder 49 = .ok (.goto (-47), 3) := by decide +kernel
theorem dX4_widenUnder_52 : decode cX4_widenUnder 52 = .ok (.return_, 1) := by decide +kernel
theorem dX4_settleJoined_0 : decode cX4_settleJoined 0 = .ok (.aload_n 1, 1) := by decide +kernel
theorem dX4_settleJoined_1 : decode cX4_settleJoined 1 = .ok (.ifnull 11, 3) := by decide +kernel
theorem dX4_settleJoined_4 : decode cX4_settleJoined 4 = .ok (.aload_n 1, 1) := by decide +kernel
theorem dX4_settleJoined_5 : decode cX4_settleJoined 5 = .ok (.getfield 282, 3) := by decide +kernel
theorem dX4_settleJoined_8 : decode cX4_settleJoined 8 = .ok (.iconst 1, 1) := by decide +kernel
theorem dX4_settleJoined_9 : decode cX4_settleJoined 9 = .ok (.if_icmp .eq 4, 3) := by decide +kernel
theorem dX4_settleJoined_12 : decode cX4_settleJoined 12 = .ok (.return_, 1) := by decide +kernel
theorem dX4_settleJoined_13 : decode cX4_settleJoined 13 = .ok (.aload_n 1, 1) := by decide +kernel
theorem dX4_settleJoined_14 : decode cX4_settleJoined 14 = .ok (.invokevirtual 296, 3) := by decide +kernel
theorem dX4_settleJoined_17 : decode cX4_settleJoined 17 = .ok (.iconst 0, 1) := by decide +kernel
theorem dX4_settleJoined_18 : decode cX4_settleJoined 18 = .ok (.istore_n 2, 1) := by decide +kernel
theorem dX4_settleJoined_19 : decode cX4_settleJoined 19 = .ok (.iload_n 2, 1) := by decide +kernel
theorem dX4_settleJoined_20 : decode cX4_settleJoined 20 = .ok (.aload_n 0, 1) := by decide +kernel
theorem dX4_settleJoined_21 : decode cX4_settleJoined 21 = .ok (.getfield 35, 3) := by decide +kernel
theorem dX4_settleJoined_24 : decode cX4_settleJoined 24 = .ok (.if_icmp .ge 43, 3) := by decide +kernel
theorem dX4_settleJoined_27 : decode cX4_settleJoined 27 = .ok (.aload_n 0, 1) := by decide +kernel
theorem dX4_settleJoined_28 : decode cX4_settleJoined 28 = .ok (.iload_n 2, 1) := by decide +kernel
theorem dX4_settleJoined_29 : decode cX4_settleJoined 29 = .ok (.invokevirtual 120, 3) := by decide +kernel
theorem dX4_settleJoined_32 : decode cX4_settleJoined 32 = .ok (.astore_n 3, 1) := by decide +kernel
theorem dX4_settleJoined_33 : decode cX4_settleJoined 33 = .ok (.aload_n 3, 1) := by decide +kernel
theorem dX4_settleJoined_34 : decode cX4_settleJoined 34 = .ok (.ifnull 27, 3) := by decide +kernel
theorem dX4_settleJoined_37 : decode cX4_settleJoined 37 = .ok (.aload_n 3, 1) := by decide +kernel
theorem dX4_settleJoined_38 : decode cX4_settleJoined 38 = .ok (.getfield 282, 3) := by decide +kernel
theorem dX4_settleJoined_41 : decode cX4_settleJoined 41 = .ok (.ifCond .ne 20, 3) := by decide +kernel
theorem dX4_settleJoined_44 : decode cX4_settleJoined 44 = .ok (.aload_n 1, 1) := by decide +kernel
theorem dX4_settleJoined_45 : decode cX4_settleJoined 45 = .ok (.getfield 139, 3) := by decide +kernel
theorem dX4_settleJoined_48 : decode cX4_settleJoined 48 = .ok (.iload_n 2, 1) := by decide +kernel
theorem dX4_settleJoined_49 : decode cX4_settleJoined 49 = .ok (.invokestatic 105, 3) := by decide +kernel
theorem dX4_settleJoined_52 : decode cX4_settleJoined 52 = .ok (.iand, 1) := by decide +kernel
theorem dX4_settleJoined_53 : decode cX4_settleJoined 53 = .ok (.ifCond .eq 8, 3) := by decide +kernel
theorem dX4_settleJoined_56 : decode cX4_settleJoined 56 = .ok (.aload_n 1, 1) := by decide +kernel
theorem dX4_settleJoined_57 : decode cX4_settleJoined 57 = .ok (.aload_n 3, 1) := by decide +kernel
theorem dX4_settleJoined_58 : decode cX4_settleJoined 58 = .ok (.invokevirtual 299, 3) := by decide +kernel
theorem dX4_settleJoined_61 : decode cX4_settleJoined 61 = .ok (.iinc 2 1, 3) := by decide +kernel
theorem dX4_settleJoined_64 : decode cX4_settleJoined 64 = .ok (.goto (-45), 3) := by decide +kernel
theorem dX4_settleJoined_67 : decode cX4_settleJoined 67 = .ok (.aload_n 1, 1) := by decide +kernel
theorem dX4_settleJoined_68 : decode cX4_settleJoined 68 = .ok (.aload_n 0, 1) := by decide +kernel
theorem dX4_settleJoined_69 : decode cX4_settleJoined 69 = .ok (.getfield 10, 3) := by decide +kernel
theorem dX4_settleJoined_72 : decode cX4_settleJoined 72 = .ok (.aload_n 1, 1) := by decide +kernel
theorem dX4_settleJoined_73 : decode cX4_settleJoined 73 = .ok (.getfield 81, 3) := by decide +kernel
theorem dX4_settleJoined_76 : decode cX4_settleJoined 76 = .ok (.invokevirtual 279, 3) := by decide +kernel
theorem dX4_settleJoined_79 : decode cX4_settleJoined 79 = .ok (.putfield 292, 3) := by decide +kernel
theorem dX4_settleJoined_82 : decode cX4_settleJoined 82 = .ok (.return_, 1) := by decide +kernel
theorem dX4_kindCount_0 : decode cX4_kindCount 0 = .ok (.iconst 0, 1) := by decide +kernel
theorem dX4_kindCount_1 : decode cX4_kindCount 1 = .ok (.istore_n 2, 1) := by decide +kernel
theorem dX4_kindCount_2 : decode cX4_kindCount 2 = .ok (.iconst 0, 1) := by decide +kernel
theorem dX4_kindCount_3 : decode cX4_kindCount 3 = .ok (.istore_n 3, 1) := by decide +kernel
theorem dX4_kindCount_4 : decode cX4_kindCount 4 = .ok (.iload_n 3, 1) := by decide +kernel
theorem dX4_kindCount_5 : decode cX4_kindCount 5 = .ok (.aload_n 0, 1) := by decide +kernel
theorem dX4_kindCount_6 : decode cX4_kindCount 6 = .ok (.getfield 35, 3) := by decide +kernel
theorem dX4_kindCount_9 : decode cX4_kindCount 9 = .ok (.if_icmp .ge 33, 3) := by decide +kernel
theorem dX4_kindCount_12 : decode cX4_kindCount 12 = .ok (.aload_n 0, 1) := by decide +kernel
theorem dX4_kindCount_13 : decode cX4_kindCount 13 = .ok (.iload_n 3, 1) := by decide +kernel
theorem dX4_kindCount_14 : decode cX4_kindCount 14 = .ok (.invokevirtual 120, 3) := by decide +kernel
theorem dX4_kindCount_17 : decode cX4_kindCount 17 = .ok (.astore 4, 2) := by decide +kernel
theorem dX4_kindCount_19 : decode cX4_kindCount 19 = .ok (.aload 4, 2) := by decide +kernel
theorem dX4_kindCount_21 : decode cX4_kindCount 21 = .ok (.ifnull 15, 3) := by decide +kernel
theorem dX4_kindCount_24 : decode cX4_kindCount 24 = .ok (.aload 4, 2) := by decide +kernel
theorem dX4_kindCount_26 : decode cX4_kindCount 26 = .ok (.invokevirtual 124, 3) := by decide +kernel
theorem dX4_kindCount_29 : decode cX4_kindCount 29 = .ok (.iload_n 1, 1) := by decide +kernel
theorem dX4_kindCount_30 : decode cX4_kindCount 30 = .ok (.if_icmp .ne 6, 3) := by decide +kernel
theorem dX4_kindCount_33 : decode cX4_kindCount 33 = .ok (.iinc 2 1, 3) := by decide +kernel
theorem dX4_kindCount_36 : decode cX4_kindCount 36 = .ok (.iinc 3 1, 3) := by decide +kernel
theorem dX4_kindCount_39 : decode cX4_kindCount 39 = .ok (.goto (-35), 3) := by decide +kernel
theorem dX4_kindCount_42 : decode cX4_kindCount 42 = .ok (.iload_n 2, 1) := by decide +kernel
theorem dX4_kindCount_43 : decode cX4_kindCount 43 = .ok (.ireturn, 1) := by decide +kernel
theorem dX4_doubtedCount_0 : decode cX4_doubtedCount 0 = .ok (.iconst 0, 1) := by decide +kernel
theorem dX4_doubtedCount_1 : decode cX4_doubtedCount 1 = .ok (.istore_n 1, 1) := by decide +kernel
theorem dX4_doubtedCount_2 : decode cX4_doubtedCount 2 = .ok (.iconst 0, 1) := by decide +kernel
theorem dX4_doubtedCount_3 : decode cX4_doubtedCount 3 = .ok (.istore_n 2, 1) := by decide +kernel
theorem dX4_doubtedCount_4 : decode cX4_doubtedCount 4 = .ok (.iload_n 2, 1) := by decide +kernel
theorem dX4_doubtedCount_5 : decode cX4_doubtedCount 5 = .ok (.aload_n 0, 1) := by decide +kernel
theorem dX4_doubtedCount_6 : decode cX4_doubtedCount 6 = .ok (.getfield 35, 3) := by decide +kernel
theorem dX4_doubtedCount_9 : decode cX4_doubtedCount 9 = .ok (.if_icmp .ge 29, 3) := by decide +kernel
theorem dX4_doubtedCount_12 : decode cX4_doubtedCount 12 = .ok (.aload_n 0, 1) := by decide +kernel
theorem dX4_doubtedCount_13 : decode cX4_doubtedCount 13 = .ok (.iload_n 2, 1) := by decide +kernel
theorem dX4_doubtedCount_14 : decode cX4_doubtedCount 14 = .ok (.invokevirtual 120, 3) := by decide +kernel
theorem dX4_doubtedCount_17 : decode cX4_doubtedCount 17 = .ok (.astore_n 3, 1) := by decide +kernel
theorem dX4_doubtedCount_18 : decode cX4_doubtedCount 18 = .ok (.aload_n 3, 1) := by decide +kernel
theorem dX4_doubtedCount_19 : decode cX4_doubtedCount 19 = .ok (.ifnull 13, 3) := by decide +kernel
theorem dX4_doubtedCount_22 : decode cX4_doubtedCount 22 = .ok (.aload_n 3, 1) := by decide +kernel
theorem dX4_doubtedCount_23 : decode cX4_doubtedCount 23 = .ok (.invokevirtual 129, 3) := by decide +kernel
theorem dX4_doubtedCount_26 : decode cX4_doubtedCount 26 = .ok (.ifCond .eq 6, 3) := by decide +kernel
theorem dX4_doubtedCount_29 : decode cX4_doubtedCount 29 = .ok (.iinc 1 1, 3) := by decide +kernel
theorem dX4_doubtedCount_32 : decode cX4_doubtedCount 32 = .ok (.iinc 2 1, 3) := by decide +kernel
theorem dX4_doubtedCount_35 : decode cX4_doubtedCount 35 = .ok (.goto (-31), 3) := by decide +kernel
theorem dX4_doubtedCount_38 : decode cX4_doubtedCount 38 = .ok (.iload_n 1, 1) := by decide +kernel
theorem dX4_doubtedCount_39 : decode cX4_doubtedCount 39 = .ok (.ireturn, 1) := by decide +kernel
theorem dX4_quarrelCount_0 : decode cX4_quarrelCount 0 = .ok (.iconst 0, 1) := by decide +kernel
theorem dX4_quarrelCount_1 : decode cX4_quarrelCount 1 = .ok (.istore_n 1, 1) := by decide +kernel
theorem dX4_quarrelCount_2 : decode cX4_quarrelCount 2 = .ok (.iconst 0, 1) := by decide +kernel
theorem dX4_quarrelCount_3 : decode cX4_quarrelCount 3 = .ok (.istore_n 2, 1) := by decide +kernel
theorem dX4_quarrelCount_4 : decode cX4_quarrelCount 4 = .ok (.iload_n 2, 1) := by decide +kernel
theorem dX4_quarrelCount_5 : decode cX4_quarrelCount 5 = .ok (.aload_n 0, 1) := by decide +kernel
theorem dX4_quarrelCount_6 : decode cX4_quarrelCount 6 = .ok (.getfield 35, 3) := by decide +kernel
theorem dX4_quarrelCount_9 : decode cX4_quarrelCount 9 = .ok (.if_icmp .ge 47, 3) := by decide +kernel
theorem dX4_quarrelCount_12 : decode cX4_quarrelCount 12 = .ok (.iload_n 2, 1) := by decide +kernel
theorem dX4_quarrelCount_13 : decode cX4_quarrelCount 13 = .ok (.iconst 1, 1) := by decide +kernel
theorem dX4_quarrelCount_14 : decode cX4_quarrelCount 14 = .ok (.iadd, 1) := by decide +kernel
theorem dX4_quarrelCount_15 : decode cX4_quarrelCount 15 = .ok (.istore_n 3, 1) := by decide +kernel
theorem dX4_quarrelCount_16 : decode cX4_quarrelCount 16 = .ok (.iload_n 3, 1) := by decide +kernel
theorem dX4_quarrelCount_17 : decode cX4_quarrelCount 17 = .ok (.aload_n 0, 1) := by decide +kernel
theorem dX4_quarrelCount_18 : decode cX4_quarrelCount 18 = .ok (.getfield 35, 3) := by decide +kernel
theorem dX4_quarrelCount_21 : decode cX4_quarrelCount 21 = .ok (.if_icmp .ge 29, 3) := by decide +kernel
theorem dX4_quarrelCount_24 : decode cX4_quarrelCount 24 = .ok (.aload_n 0, 1) := by decide +kernel
theorem dX4_quarrelCount_25 : decode cX4_quarrelCount 25 = .ok (.aload_n 0, 1) := by decide +kernel
theorem dX4_quarrelCount_26 : decode cX4_quarrelCount 26 = .ok (.iload_n 2, 1) := by decide +kernel
theorem dX4_quarrelCount_27 : decode cX4_quarrelCount 27 = .ok (.invokevirtual 120, 3) := by decide +kernel
theorem dX4_quarrelCount_30 : decode cX4_quarrelCount 30 = .ok (.aload_n 0, 1) := by decide +kernel
theorem dX4_quarrelCount_31 : decode cX4_quarrelCount 31 = .ok (.iload_n 3, 1) := by decide +kernel
theorem dX4_quarrelCount_32 : decode cX4_quarrelCount 32 = .ok (.invokevirtual 120, 3) := by decide +kernel
theorem dX4_quarrelCount_35 : decode cX4_quarrelCount 35 = .ok (.invokevirtual 194, 3) := by decide +kernel
theorem dX4_quarrelCount_38 : decode cX4_quarrelCount 38 = .ok (.ifCond .eq 6, 3) := by decide +kernel
theorem dX4_quarrelCount_41 : decode cX4_quarrelCount 41 = .ok (.iinc 1 1, 3) := by decide +kernel
theorem dX4_quarrelCount_44 : decode cX4_quarrelCount 44 = .ok (.iinc 3 1, 3) := by decide +kernel
theorem dX4_quarrelCount_47 : decode cX4_quarrelCount 47 = .ok (.goto (-31), 3) := by decide +kernel
theorem dX4_quarrelCount_50 : decode cX4_quarrelCount 50 = .ok (.iinc 2 1, 3) := by decide +kernel
theorem dX4_quarrelCount_53 : decode cX4_quarrelCount 53 = .ok (.goto (-49), 3) := by decide +kernel
theorem dX4_quarrelCount_56 : decode cX4_quarrelCount 56 = .ok (.iload_n 1, 1) := by decide +kernel
theorem dX4_quarrelCount_57 : decode cX4_quarrelCount 57 = .ok (.ireturn, 1) := by decide +kernel
theorem dX4_areQuarrelling_0 : decode cX4_areQuarrelling 0 = .ok (.aload_n 1, 1) := by decide +kernel
theorem dX4_areQuarrelling_1 : decode cX4_areQuarrelling 1 = .ok (.ifnull 32, 3) := by decide +kernel
theorem dX4_areQuarrelling_4 : decode cX4_areQuarrelling 4 = .ok (.aload_n 2, 1) := by decide +kernel
theorem dX4_areQuarrelling_5 : decode cX4_areQuarrelling 5 = .ok (.ifnull 28, 3) := by decide +kernel
theorem dX4_areQuarrelling_8 : decode cX4_areQuarrelling 8 = .ok (.aload_n 1, 1) := by decide +kernel
theorem dX4_areQuarrelling_9 : decode cX4_areQuarrelling 9 = .ok (.invokevirtual 124, 3) := by decide +kernel
theorem dX4_areQuarrelling_12 : decode cX4_areQuarrelling 12 = .ok (.ifCond .ne 21, 3) := by decide +kernel
theorem dX4_areQuarrelling_15 : decode cX4_areQuarrelling 15 = .ok (.aload_n 2, 1) := by decide +kernel
theorem dX4_areQuarrelling_16 : decode cX4_areQuarrelling 16 = .ok (.invokevirtual 124, 3) := by decide +kernel
theorem dX4_areQuarrelling_19 : decode cX4_areQuarrelling 19 = .ok (.ifCond .ne 14, 3) := by decide +kernel
theorem dX4_areQuarrelling_22 : decode cX4_areQuarrelling 22 = .ok (.aload_n 1, 1) := by decide +kernel
theorem dX4_areQuarrelling_23 : decode cX4_areQuarrelling 23 = .ok (.getfield 158, 3) := by decide +kernel
theorem dX4_areQuarrelling_26 : decode cX4_areQuarrelling 26 = .ok (.aload_n 2, 1) := by decide +kernel
theorem dX4_areQuarrelling_27 : decode cX4_areQuarrelling 27 = .ok (.getfield 158, 3) := by decide +kernel
theorem dX4_areQuarrelling_30 : decode cX4_areQuarrelling 30 = .ok (.if_icmp .ne 5, 3) := by decide +kernel
theorem dX4_areQuarrelling_33 : decode cX4_areQuarrelling 33 = .ok (.iconst 0, 1) := by decide +kernel
theorem dX4_areQuarrelling_34 : decode cX4_areQuarrelling 34 = .ok (.ireturn, 1) := by decide +kernel
theorem dX4_areQuarrelling_35 : decode cX4_areQuarrelling 35 = .ok (.iconst 0, 1) := by decide +kernel
theorem dX4_areQuarrelling_36 : decode cX4_areQuarrelling 36 = .ok (.istore_n 3, 1) := by decide +kernel
theorem dX4_areQuarrelling_37 : decode cX4_areQuarrelling 37 = .ok (.iload_n 3, 1) := by decide +kernel
theorem dX4_areQuarrelling_38 : decode cX4_areQuarrelling 38 = .ok (.iconst 3, 1) := by decide +kernel
theorem dX4_areQuarrelling_39 : decode cX4_areQuarrelling 39 = .ok (.if_icmp .ge 25, 3) := by decide +kernel
theorem dX4_areQuarrelling_42 : decode cX4_areQuarrelling 42 = .ok (.aload_n 1, 1) := by decide +kernel
theorem dX4_areQuarrelling_43 : decode cX4_areQuarrelling 43 = .ok (.iload_n 3, 1) := by decide +kernel
theorem dX4_areQuarrelling_44 : decode cX4_areQuarrelling 44 = .ok (.invokevirtual 161, 3) := by decide +kernel
theorem dX4_areQuarrelling_47 : decode cX4_areQuarrelling 47 = .ok (.aload_n 2, 1) := by decide +kernel
theorem dX4_areQuarrelling_48 : decode cX4_areQuarrelling 48 = .ok (.iload_n 3, 1) := by decide +kernel
theorem dX4_areQuarrelling_49 : decode cX4_areQuarrelling 49 = .ok (.invokevirtual 161, 3) := by decide +kernel
theorem dX4_areQuarrelling_52 : decode cX4_areQuarrelling 52 = .ok (.iand, 1) := by decide +kernel
theorem dX4_areQuarrelling_53 : decode cX4_areQuarrelling 53 = .ok (.ifCond .ne 5, 3) := by decide +kernel
theorem dX4_areQuarrelling_56 : decode cX4_areQuarrelling 56 = .ok (.iconst 0, 1) := by decide +kernel
theorem dX4_areQuarrelling_57 : decode cX4_areQuarrelling 57 = .ok (.ireturn, 1) := by decide +kernel
theorem dX4_areQuarrelling_58 : decode cX4_areQuarrelling 58 = .ok (.iinc 3 1, 3) := by decide +kernel
theorem dX4_areQuarrelling_61 : decode cX4_areQuarrelling 61 = .ok (.goto (-24), 3) := by decide +kernel
theorem dX4_areQuarrelling_64 : decode cX4_areQuarrelling 64 = .ok (.aload_n 1, 1) := by decide +kernel
theorem dX4_areQuarrelling_65 : decode cX4_areQuarrelling 65 = .ok (.getfield 292, 3) := by decide +kernel
theorem dX4_areQuarrelling_68 : decode cX4_areQuarrelling 68 = .ok (.aload_n 2, 1) := by decide +kernel
theorem dX4_areQuarrelling_69 : decode cX4_areQuarrelling 69 = .ok (.getfield 292, 3) := by decide +kernel
theorem dX4_areQuarrelling_72 : decode cX4_areQuarrelling 72 = .ok (.invokestatic 302, 3) := by decide +kernel
theorem dX4_areQuarrelling_75 : decode cX4_areQuarrelling 75 = .ok (.aload_n 0, 1) := by decide +kernel
theorem dX4_areQuarrelling_76 : decode cX4_areQuarrelling 76 = .ok (.getfield 42, 3) := by decide +kernel
theorem dX4_areQuarrelling_79 : decode cX4_areQuarrelling 79 = .ok (.if_icmp .gt 7, 3) := by decide +kernel
theorem dX4_areQuarrelling_82 : decode cX4_areQuarrelling 82 = .ok (.iconst 1, 1) := by decide +kernel
theorem dX4_areQuarrelling_83 : decode cX4_areQuarrelling 83 = .ok (.goto 4, 3) := by decide +kernel
theorem dX4_areQuarrelling_86 : decode cX4_areQuarrelling 86 = .ok (.iconst 0, 1) := by decide +kernel
theorem dX4_areQuarrelling_87 : decode cX4_areQuarrelling 87 = .ok (.ireturn, 1) := by decide +kernel
theorem dX4_quarrelPart_0 : decode cX4_quarrelPart 0 = .ok (.aload_n 0, 1) := by decide +kernel
theorem dX4_quarrelPart_1 : decode cX4_quarrelPart 1 = .ok (.iload_n 1, 1) := by decide +kernel
theorem dX4_quarrelPart_2 : decode cX4_quarrelPart 2 = .ok (.invokevirtual 120, 3) := by decide +kernel
theorem dX4_quarrelPart_5 : decode cX4_quarrelPart 5 = .ok (.astore 4, 2) := by decide +kernel
theorem dX4_quarrelPart_7 : decode cX4_quarrelPart 7 = .ok (.aload_n 0, 1) := by decide +kernel
theorem dX4_quarrelPart_8 : decode cX4_quarrelPart 8 = .ok (.iload_n 2, 1) := by decide +kernel
theorem dX4_quarrelPart_9 : decode cX4_quarrelPart 9 = .ok (.invokevirtual 120, 3) := by decide +kernel
theorem dX4_quarrelPart_12 : decode cX4_quarrelPart 12 = .ok (.astore 5, 2) := by decide +kernel
theorem dX4_quarrelPart_14 : decode cX4_quarrelPart 14 = .ok (.aload 4, 2) := by decide +kernel
theorem dX4_quarrelPart_16 : decode cX4_quarrelPart 16 = .ok (.ifnull 8, 3) := by decide +kernel
theorem dX4_quarrelPart_19 : decode cX4_quarrelPart 19 = .ok (.aload 5, 2) := by decide +kernel
theorem dX4_quarrelPart_21 : decode cX4_quarrelPart 21 = .ok (.ifnonnull 5, 3) := by decide +kernel
theorem dX4_quarrelPart_24 : decode cX4_quarrelPart 24 = .ok (.iconst (-1), 1) := by decide +kernel
theorem dX4_quarrelPart_25 : decode cX4_quarrelPart 25 = .ok (.ireturn, 1) := by decide +kernel
theorem dX4_quarrelPart_26 : decode cX4_quarrelPart 26 = .ok (.iload_n 3, 1) := by decide +kernel
theorem dX4_quarrelPart_27 : decode cX4_quarrelPart 27 = .ok (.ifCond .ne 7, 3) := by decide +kernel
theorem dX4_quarrelPart_30 : decode cX4_quarrelPart 30 = .ok (.iload_n 1, 1) := by decide +kernel
theorem dX4_quarrelPart_31 : decode cX4_quarrelPart 31 = .ok (.goto 32, 3) := by decide +kernel
theorem dX4_quarrelPart_34 : decode cX4_quarrelPart 34 = .ok (.iload_n 3, 1) := by decide +kernel
theorem dX4_quarrelPart_35 : decode cX4_quarrelPart 35 = .ok (.iconst 1, 1) := by decide +kernel
theorem dX4_quarrelPart_36 : decode cX4_quarrelPart 36 = .ok (.if_icmp .ne 7, 3) := by decide +kernel
theorem dX4_quarrelPart_39 : decode cX4_quarrelPart 39 = .ok (.iload_n 2, 1) := by decide +kernel
theorem dX4_quarrelPart_40 : decode cX4_quarrelPart 40 = .ok (.goto 23, 3) := by decide +kernel
theorem dX4_quarrelPart_43 : decode cX4_quarrelPart 43 = .ok (.aload 4, 2) := by decide +kernel
theorem dX4_quarrelPart_45 : decode cX4_quarrelPart 45 = .ok (.iload_n 3, 1) := by decide +kernel
theorem dX4_quarrelPart_46 : decode cX4_quarrelPart 46 = .ok (.iconst 2, 1) := by decide +kernel
theorem dX4_quarrelPart_47 : decode cX4_quarrelPart 47 = .ok (.isub, 1) := by decide +kernel
theorem dX4_quarrelPart_48 : decode cX4_quarrelPart 48 = .ok (.invokevirtual 161, 3) := by decide +kernel
theorem dX4_quarrelPart_51 : decode cX4_quarrelPart 51 = .ok (.aload 5, 2) := by decide +kernel
theorem dX4_quarrelPart_53 : decode cX4_quarrelPart 53 = .ok (.iload_n 3, 1) := by decide +kernel
theorem dX4_quarrelPart_54 : decode cX4_quarrelPart 54 = .ok (.iconst 2, 1) := by decide +kernel
theorem dX4_quarrelPart_55 : decode cX4_quarrelPart 55 = .ok (.isub, 1) := by decide +kernel
theorem dX4_quarrelPart_56 : decode cX4_quarrelPart 56 = .ok (.invokevirtual 161, 3) := by decide +kernel
theorem dX4_quarrelPart_59 : decode cX4_quarrelPart 59 = .ok (.iand, 1) := by decide +kernel
theorem dX4_quarrelPart_60 : decode cX4_quarrelPart 60 = .ok (.invokestatic 306, 3) := by decide +kernel
theorem dX4_quarrelPart_63 : decode cX4_quarrelPart 63 = .ok (.ireturn, 1) := by decide +kernel
theorem dX4_isFit_0 : decode cX4_isFit 0 = .ok (.aload_n 1, 1) := by decide +kernel
theorem dX4_isFit_1 : decode cX4_isFit 1 = .ok (.invokevirtual 136, 3) := by decide +kernel
theorem dX4_isFit_4 : decode cX4_isFit 4 = .ok (.ifCond .eq 5, 3) := by decide +kernel
theorem dX4_isFit_7 : decode cX4_isFit 7 = .ok (.iconst 0, 1) := by decide +kernel
theorem dX4_isFit_8 : decode cX4_isFit 8 = .ok (.ireturn, 1) := by decide +kernel
theorem dX4_isFit_9 : decode cX4_isFit 9 = .ok (.iconst 0, 1) := by decide +kernel
theorem dX4_isFit_10 : decode cX4_isFit 10 = .ok (.istore_n 2, 1) := by decide +kernel
theorem dX4_isFit_11 : decode cX4_isFit 11 = .ok (.iload_n 2, 1) := by decide +kernel
theorem dX4_isFit_12 : decode cX4_isFit 12 = .ok (.iconst 3, 1) := by decide +kernel
theorem dX4_isFit_13 : decode cX4_isFit 13 = .ok (.if_icmp .ge 39, 3) := by decide +kernel
theorem dX4_isFit_16 : decode cX4_isFit 16 = .ok (.aload_n 0, 1) := by decide +kernel
theorem dX4_isFit_17 : decode cX4_isFit 17 = .ok (.iload_n 2, 1) := by decide +kernel
theorem dX4_isFit_18 : decode cX4_isFit 18 = .ok (.invokevirtual 309, 3) := by decide +kernel
theorem dX4_isFit_21 : decode cX4_isFit 21 = .ok (.istore_n 3, 1) := by decide +kernel
theorem dX4_isFit_22 : decode cX4_isFit 22 = .ok (.aload_n 1, 1) := by decide +kernel
theorem dX4_isFit_23 : decode cX4_isFit 23 = .ok (.iload_n 2, 1) := by decide +kernel
theorem dX4_isFit_24 : decode cX4_isFit 24 = .ok (.invokevirtual 161, 3) := by decide +kernel
theorem dX4_isFit_27 : decode cX4_isFit 27 = .ok (.ifCond .eq 17, 3) := by decide +kernel
theorem dX4_isFit_30 : decode cX4_isFit 30 = .ok (.iload_n 3, 1) := by decide +kernel
theorem dX4_isFit_31 : decode cX4_isFit 31 = .ok (.iconst (-1), 1) := by decide +kernel
theorem dX4_isFit_32 : decode cX4_isFit 32 = .ok (.if_icmp .eq 14, 3) := by decide +kernel
theorem dX4_isFit_35 : decode cX4_isFit 35 = .ok (.aload_n 1, 1) := by decide +kernel
theorem dX4_isFit_36 : decode cX4_isFit 36 = .ok (.iload_n 2, 1) := by decide +kernel
theorem dX4_isFit_37 : decode cX4_isFit 37 = .ok (.iload_n 3, 1) := by decide +kernel
theorem dX4_isFit_38 : decode cX4_isFit 38 = .ok (.invokevirtual 176, 3) := by decide +kernel
theorem dX4_isFit_41 : decode cX4_isFit 41 = .ok (.ifCond .ne 5, 3) := by decide +kernel
theorem dX4_isFit_44 : decode cX4_isFit 44 = .ok (.iconst 0, 1) := by decide +kernel
theorem dX4_isFit_45 : decode cX4_isFit 45 = .ok (.ireturn, 1) := by decide +kernel
theorem dX4_isFit_46 : decode cX4_isFit 46 = .ok (.iinc 2 1, 3) := by decide +kernel
theorem dX4_isFit_49 : decode cX4_isFit 49 = .ok (.goto (-38), 3) := by decide +kernel
theorem dX4_isFit_52 : decode cX4_isFit 52 = .ok (.iconst 1, 1) := by decide +kernel
theorem dX4_isFit_53 : decode cX4_isFit 53 = .ok (.ireturn, 1) := by decide +kernel
theorem dX4_questionOf_0 : decode cX4_questionOf 0 = .ok (.iconst 0, 1) := by decide +kernel
theorem dX4_questionOf_1 : decode cX4_questionOf 1 = .ok (.istore_n 2, 1) := by decide +kernel
theorem dX4_questionOf_2 : decode cX4_questionOf 2 = .ok (.iload_n 2, 1) := by decide +kernel
theorem dX4_questionOf_3 : decode cX4_questionOf 3 = .ok (.iconst 3, 1) := by decide +kernel
theorem dX4_questionOf_4 : decode cX4_questionOf 4 = .ok (.if_icmp .ge 32, 3) := by decide +kernel
theorem dX4_questionOf_7 : decode cX4_questionOf 7 = .ok (.aload_n 0, 1) := by decide +kernel
theorem dX4_questionOf_8 : decode cX4_questionOf 8 = .ok (.iload_n 2, 1) := by decide +kernel
theorem dX4_questionOf_9 : decode cX4_questionOf 9 = .ok (.invokevirtual 309, 3) := by decide +kernel
theorem dX4_questionOf_12 : decode cX4_questionOf 12 = .ok (.iconst (-1), 1) := by decide +kernel
theorem dX4_questionOf_13 : decode cX4_questionOf 13 = .ok (.if_icmp .ne 17, 3) := by decide +kernel
theorem dX4_questionOf_16 : decode cX4_questionOf 16 = .ok (.aload_n 1, 1) := by decide +kernel
theorem dX4_questionOf_17 : decode cX4_questionOf 17 = .ok (.iload_n 2, 1) := by decide +kernel
theorem dX4_questionOf_18 : decode cX4_questionOf 18 = .ok (.invokevirtual 161, 3) := by decide +kernel
theorem dX4_questionOf_21 : decode cX4_questionOf 21 = .ok (.iload_n 2, 1) := by decide +kernel
theorem dX4_questionOf_22 : decode cX4_questionOf 22 = .ok (.invokestatic 251, 3) := by decide +kernel
theorem dX4_questionOf_25 : decode cX4_questionOf 25 = .ok (.if_icmp .eq 5, 3) := by decide +kernel
theorem dX4_questionOf_28 : decode cX4_questionOf 28 = .ok (.iload_n 2, 1) := by decide +kernel
theorem dX4_questionOf_29 : decode cX4_questionOf 29 = .ok (.ireturn, 1) := by decide +kernel
theorem dX4_questionOf_30 : decode cX4_questionOf 30 = .ok (.iinc 2 1, 3) := by decide +kernel
theorem dX4_questionOf_33 : decode cX4_questionOf 33 = .ok (.goto (-31), 3) := by decide +kernel
theorem dX4_questionOf_36 : decode cX4_questionOf 36 = .ok (.iconst (-1), 1) := by decide +kernel
theorem dX4_questionOf_37 : decode cX4_questionOf 37 = .ok (.ireturn, 1) := by decide +kernel
theorem dX4_costOf_0 : decode cX4_costOf 0 = .ok (.lload_n 0, 1) := by decide +kernel
theorem dX4_costOf_1 : decode cX4_costOf 1 = .ok (.aload_n 3, 1) := by decide +kernel
theorem dX4_costOf_2 : decode cX4_costOf 2 = .ok (.getfield 292, 3) := by decide +kernel
theorem dX4_costOf_5 : decode cX4_costOf 5 = .ok (.ldc2_w 312, 3) := by decide +kernel
theorem dX4_costOf_8 : decode cX4_costOf 8 = .ok (.lxor, 1) := by decide +kernel
theorem dX4_costOf_9 : decode cX4_costOf 9 = .ok (.land, 1) := by decide +kernel
theorem dX4_costOf_10 : decode cX4_costOf 10 = .ok (.invokestatic 254, 3) := by decide +kernel
theorem dX4_costOf_13 : decode cX4_costOf 13 = .ok (.istore 4, 2) := by decide +kernel
theorem dX4_costOf_15 : decode cX4_costOf 15 = .ok (.aload_n 3, 1) := by decide +kernel
theorem dX4_costOf_16 : decode cX4_costOf 16 = .ok (.getfield 292, 3) := by decide +kernel
theorem dX4_costOf_19 : decode cX4_costOf 19 = .ok (.lload_n 0, 1) := by decide +kernel
theorem dX4_costOf_20 : decode cX4_costOf 20 = .ok (.ldc2_w 312, 3) := by decide +kernel
theorem dX4_costOf_23 : decode cX4_costOf 23 = .ok (.lxor, 1) := by decide +kernel
theorem dX4_costOf_24 : decode cX4_costOf 24 = .ok (.land, 1) := by decide +kernel
theorem dX4_costOf_25 : decode cX4_costOf 25 = .ok (.invokestatic 254, 3) := by decide +kernel
theorem dX4_costOf_28 : decode cX4_costOf 28 = .ok (.istore 5, 2) := by decide +kernel
theorem dX4_costOf_30 : decode cX4_costOf 30 = .ok (.aload_n 3, 1) := by decide +kernel
theorem dX4_costOf_31 : decode cX4_costOf 31 = .ok (.invokevirtual 129, 3) := by decide +kernel
theorem dX4_costOf_34 : decode cX4_costOf 34 = .ok (.ifCond .eq 8, 3) := by decide +kernel
theorem dX4_costOf_37 : decode cX4_costOf 37 = .ok (.bipush 15, 2) := by decide +kernel
theorem dX4_costOf_39 : decode cX4_costOf 39 = .ok (.goto 4, 3) := by decide +kernel
theorem dX4_costOf_42 : decode cX4_costOf 42 = .ok (.iconst 0, 1) := by decide +kernel
theorem dX4_costOf_43 : decode cX4_costOf 43 = .ok (.istore 6, 2) := by decide +kernel
theorem dX4_costOf_45 : decode cX4_costOf 45 = .ok (.aload_n 2, 1) := by decide +kernel
theorem dX4_costOf_46 : decode cX4_costOf 46 = .ok (.aload_n 3, 1) := by decide +kernel
theorem dX4_costOf_47 : decode cX4_costOf 47 = .ok (.invokestatic 222, 3) := by decide +kernel
theorem dX4_costOf_50 : decode cX4_costOf 50 = .ok (.iconst (-1), 1) := by decide +kernel
theorem dX4_costOf_51 : decode cX4_costOf 51 = .ok (.if_icmp .ne 7, 3) := by decide +kernel
theorem dX4_costOf_54 : decode cX4_costOf 54 = .ok (.iconst 0, 1) := by decide +kernel
theorem dX4_costOf_55 : decode cX4_costOf 55 = .ok (.goto 4, 3) := by decide +kernel
theorem dX4_costOf_58 : decode cX4_costOf 58 = .ok (.iconst 5, 1) := by decide +kernel
theorem dX4_costOf_59 : decode cX4_costOf 59 = .ok (.istore 7, 2) := by decide +kernel
theorem dX4_costOf_61 : decode cX4_costOf 61 = .ok (.bipush (-9), 2) := by decide +kernel
theorem dX4_costOf_63 : decode cX4_costOf 63 = .ok (.bipush 9, 2) := by decide +kernel
theorem dX4_costOf_65 : decode cX4_costOf 65 = .ok (.aload_n 3, 1) := by decide +kernel
theorem dX4_costOf_66 : decode cX4_costOf 66 = .ok (.getfield 152, 3) := by decide +kernel
theorem dX4_costOf_69 : decode cX4_costOf 69 = .ok (.invokestatic 314, 3) := by decide +kernel
theorem dX4_costOf_72 : decode cX4_costOf 72 = .ok (.invokestatic 319, 3) := by decide +kernel
theorem dX4_costOf_75 : decode cX4_costOf 75 = .ok (.istore 8, 2) := by decide +kernel
theorem dX4_costOf_77 : decode cX4_costOf 77 = .ok (.bipush 10, 2) := by decide +kernel
theorem dX4_costOf_79 : decode cX4_costOf 79 = .ok (.iload 4, 2) := by decide +kernel
theorem dX4_costOf_81 : decode cX4_costOf 81 = .ok (.imul, 1) := by decide +kernel
theorem dX4_costOf_82 : decode cX4_costOf 82 = .ok (.iconst 3, 1) := by decide +kernel
theorem dX4_costOf_83 : decode cX4_costOf 83 = .ok (.iload 5, 2) := by decide +kernel
theorem dX4_costOf_85 : decode cX4_costOf 85 = .ok (.imul, 1) := by decide +kernel
theorem dX4_costOf_86 : decode cX4_costOf 86 = .ok (.iadd, 1) := by decide +kernel
theorem dX4_costOf_87 : decode cX4_costOf 87 = .ok (.iload 6, 2) := by decide +kernel
theorem dX4_costOf_89 : decode cX4_costOf 89 = .ok (.iadd, 1) := by decide +kernel
theorem dX4_costOf_90 : decode cX4_costOf 90 = .ok (.iload 7, 2) := by decide +kernel
theorem dX4_costOf_92 : decode cX4_costOf 92 = .ok (.iadd, 1) := by decide +kernel
theorem dX4_costOf_93 : decode cX4_costOf 93 = .ok (.iload 8, 2) := by decide +kernel
theorem dX4_costOf_95 : decode cX4_costOf 95 = .ok (.isub, 1) := by decide +kernel
theorem dX4_costOf_96 : decode cX4_costOf 96 = .ok (.ireturn, 1) := by decide +kernel
theorem dX4_isFound_0 : decode cX4_isFound 0 = .ok (.aload 4, 2) := by decide +kernel
theorem dX4_isFound_2 : decode cX4_isFound 2 = .ok (.ifnull 30, 3) := by decide +kernel
theorem dX4_isFound_5 : decode cX4_isFound 5 = .ok (.aload_n 3, 1) := by decide +kernel
theorem dX4_isFound_6 : decode cX4_isFound 6 = .ok (.aload 4, 2) := by decide +kernel
theorem dX4_isFound_8 : decode cX4_isFound 8 = .ok (.invokestatic 226, 3) := by decide +kernel
theorem dX4_isFound_11 : decode cX4_isFound 11 = .ok (.ifCond .eq 21, 3) := by decide +kernel
theorem dX4_isFound_14 : decode cX4_isFound 14 = .ok (.lload_n 1, 1) := by decide +kernel
theorem dX4_isFound_15 : decode cX4_isFound 15 = .ok (.aload_n 3, 1) := by decide +kernel
theorem dX4_isFound_16 : decode cX4_isFound 16 = .ok (.aload 4, 2) := by decide +kernel
theorem dX4_isFound_18 : decode cX4_isFound 18 = .ok (.invokestatic 218, 3) := by decide +kernel
theorem dX4_isFound_21 : decode cX4_isFound 21 = .ok (.aload_n 0, 1) := by decide +kernel
theorem dX4_isFound_22 : decode cX4_isFound 22 = .ok (.getfield 45, 3) := by decide +kernel
theorem dX4_isFound_25 : decode cX4_isFound 25 = .ok (.if_icmp .gt 7, 3) := by decide +kernel
theorem dX4_isFound_28 : decode cX4_isFound 28 = .ok (.iconst 1, 1) := by decide +kernel
theorem dX4_isFound_29 : decode cX4_isFound 29 = .ok (.goto 4, 3) := by decide +kernel
theorem dX4_isFound_32 : decode cX4_isFound 32 = .ok (.iconst 0, 1) := by decide +kernel
theorem dX4_isFound_33 : decode cX4_isFound 33 = .ok (.ireturn, 1) := by decide +kernel
theorem dX4_findsSome_0 : decode cX4_findsSome 0 = .ok (.iconst 0, 1) := by decide +kernel
theorem dX4_findsSome_1 : decode cX4_findsSome 1 = .ok (.istore 4, 2) := by decide +kernel
theorem dX4_findsSome_3 : decode cX4_findsSome 3 = .ok (.iload 4, 2) := by decide +kernel
theorem dX4_findsSome_5 : decode cX4_findsSome 5 = .ok (.aload_n 0, 1) := by decide +kernel
theorem dX4_findsSome_6 : decode cX4_findsSome 6 = .ok (.getfield 35, 3) := by decide +kernel
theorem dX4_findsSome_9 : decode cX4_findsSome 9 = .ok (.if_icmp .ge 26, 3) := by decide +kernel
theorem dX4_findsSome_12 : decode cX4_findsSome 12 = .ok (.aload_n 0, 1) := by decide +kernel
theorem dX4_findsSome_13 : decode cX4_findsSome 13 = .ok (.lload_n 1, 1) := by decide +kernel
theorem dX4_findsSome_14 : decode cX4_findsSome 14 = .ok (.aload_n 3, 1) := by decide +kernel
theorem dX4_findsSome_15 : decode cX4_findsSome 15 = .ok (.aload_n 0, 1) := by decide +kernel
theorem dX4_findsSome_16 : decode cX4_findsSome 16 = .ok (.iload 4, 2) := by decide +kernel
theorem dX4_findsSome_18 : decode cX4_findsSome 18 = .ok (.invokevirtual 120, 3) := by decide +kernel
theorem dX4_findsSome_21 : decode cX4_findsSome 21 = .ok (.invokevirtual 322, 3) := by decide +kernel
theorem dX4_findsSome_24 : decode cX4_findsSome 24 = .ok (.ifCond .eq 5, 3) := by decide +kernel
theorem dX4_findsSome_27 : decode cX4_findsSome 27 = .ok (.iconst 1, 1) := by decide +kernel
theorem dX4_findsSome_28 : decode cX4_findsSome 28 = .ok (.ireturn, 1) := by decide +kernel
theorem dX4_findsSome_29 : decode cX4_findsSome 29 = .ok (.iinc 4 1, 3) := by decide +kernel
theorem dX4_findsSome_32 : decode cX4_findsSome 32 = .ok (.goto (-29), 3) := by decide +kernel
theorem dX4_findsSome_35 : decode cX4_findsSome 35 = .ok (.iconst 0, 1) := by decide +kernel
theorem dX4_findsSome_36 : decode cX4_findsSome 36 = .ok (.ireturn, 1) := by decide +kernel
theorem dX4_foundCount_0 : decode cX4_foundCount 0 = .ok (.iconst 0, 1) := by decide +kernel
theorem dX4_foundCount_1 : decode cX4_foundCount 1 = .ok (.istore_n 2, 1) := by decide +kernel
theorem dX4_foundCount_2 : decode cX4_foundCount 2 = .ok (.iconst 0, 1) := by decide +kernel
theorem dX4_foundCount_3 : decode cX4_foundCount 3 = .ok (.istore_n 3, 1) := by decide +kernel
theorem dX4_foundCount_4 : decode cX4_foundCount 4 = .ok (.iload_n 3, 1) := by decide +kernel
theorem dX4_foundCount_5 : decode cX4_foundCount 5 = .ok (.aload_n 0, 1) := by decide +kernel
theorem dX4_foundCount_6 : decode cX4_foundCount 6 = .ok (.getfield 35, 3) := by decide +kernel
theorem dX4_foundCount_9 : decode cX4_foundCount 9 = .ok (.if_icmp .ge 29, 3) := by decide +kernel
theorem dX4_foundCount_12 : decode cX4_foundCount 12 = .ok (.aload_n 0, 1) := by decide +kernel
theorem dX4_foundCount_13 : decode cX4_foundCount 13 = .ok (.aload_n 1, 1) := by decide +kernel
theorem dX4_foundCount_14 : decode cX4_foundCount 14 = .ok (.getfield 215, 3) := by decide +kernel
theorem dX4_foundCount_17 : decode cX4_foundCount 17 = .ok (.aload_n 1, 1) := by decide +kernel
theorem dX4_foundCount_18 : decode cX4_foundCount 18 = .ok (.aload_n 0, 1) := by decide +kernel
theorem dX4_foundCount_19 : decode cX4_foundCount 19 = .ok (.iload_n 3, 1) := by decide +kernel
theorem dX4_foundCount_20 : decode cX4_foundCount 20 = .ok (.invokevirtual 120, 3) := by decide +kernel
theorem dX4_foundCount_23 : decode cX4_foundCount 23 = .ok (.invokevirtual 322, 3) := by decide +kernel
theorem dX4_foundCount_26 : decode cX4_foundCount 26 = .ok (.ifCond .eq 6, 3) := by decide +kernel
theorem dX4_foundCount_29 : decode cX4_foundCount 29 = .ok (.iinc 2 1, 3) := by decide +kernel
theorem dX4_foundCount_32 : decode cX4_foundCount 32 = .ok (.iinc 3 1, 3) := by decide +kernel
theorem dX4_foundCount_35 : decode cX4_foundCount 35 = .ok (.goto (-31), 3) := by decide +kernel
theorem dX4_foundCount_38 : decode cX4_foundCount 38 = .ok (.iload_n 2, 1) := by decide +kernel
theorem dX4_foundCount_39 : decode cX4_foundCount 39 = .ok (.ireturn, 1) := by decide +kernel
theorem dX4_foundAt_0 : decode cX4_foundAt 0 = .ok (.iconst 0, 1) := by decide +kernel
theorem dX4_foundAt_1 : decode cX4_foundAt 1 = .ok (.istore_n 3, 1) := by decide +kernel
theorem dX4_foundAt_2 : decode cX4_foundAt 2 = .ok (.iload_n 3, 1) := by decide +kernel
theorem dX4_foundAt_3 : decode cX4_foundAt 3 = .ok (.aload_n 0, 1) := by decide +kernel
theorem dX4_foundAt_4 : decode cX4_foundAt 4 = .ok (.getfield 35, 3) := by decide +kernel
theorem dX4_foundAt_7 : decode cX4_foundAt 7 = .ok (.if_icmp .ge 49, 3) := by decide +kernel
theorem dX4_foundAt_10 : decode cX4_foundAt 10 = .ok (.aload_n 0, 1) := by decide +kernel
theorem dX4_foundAt_11 : decode cX4_foundAt 11 = .ok (.iload_n 3, 1) := by decide +kernel
theorem dX4_foundAt_12 : decode cX4_foundAt 12 = .ok (.invokevirtual 120, 3) := by decide +kernel
theorem dX4_foundAt_15 : decode cX4_foundAt 15 = .ok (.astore 4, 2) := by decide +kernel
theorem dX4_foundAt_17 : decode cX4_foundAt 17 = .ok (.aload 4, 2) := by decide +kernel
theorem dX4_foundAt_19 : decode cX4_foundAt 19 = .ok (.ifnull 31, 3) := by decide +kernel
theorem dX4_foundAt_22 : decode cX4_foundAt 22 = .ok (.aload_n 0, 1) := by decide +kernel
theorem dX4_foundAt_23 : decode cX4_foundAt 23 = .ok (.aload_n 1, 1) := by decide +kernel
theorem dX4_foundAt_24 : decode cX4_foundAt 24 = .ok (.getfield 215, 3) := by decide +kernel
theorem dX4_foundAt_27 : decode cX4_foundAt 27 = .ok (.aload_n 1, 1) := by decide +kernel
theorem dX4_foundAt_28 : decode cX4_foundAt 28 = .ok (.aload 4, 2) := by decide +kernel
theorem dX4_foundAt_30 : decode cX4_foundAt 30 = .ok (.invokevirtual 322, 3) := by decide +kernel
theorem dX4_foundAt_33 : decode cX4_foundAt 33 = .ok (.ifCond .eq 17, 3) := by decide +kernel
theorem dX4_foundAt_36 : decode cX4_foundAt 36 = .ok (.aload_n 0, 1) := by decide +kernel
theorem dX4_foundAt_37 : decode cX4_foundAt 37 = .ok (.aload_n 1, 1) := by decide +kernel
theorem dX4_foundAt_38 : decode cX4_foundAt 38 = .ok (.aload 4, 2) := by decide +kernel
theorem dX4_foundAt_40 : decode cX4_foundAt 40 = .ok (.invokevirtual 326, 3) := by decide +kernel
theorem dX4_foundAt_43 : decode cX4_foundAt 43 = .ok (.iload_n 2, 1) := by decide +kernel
theorem dX4_foundAt_44 : decode cX4_foundAt 44 = .ok (.if_icmp .ne 6, 3) := by decide +kernel
theorem dX4_foundAt_47 : decode cX4_foundAt 47 = .ok (.aload 4, 2) := by decide +kernel
theorem dX4_foundAt_49 : decode cX4_foundAt 49 = .ok (.areturn, 1) := by decide +kernel
theorem dX4_foundAt_50 : decode cX4_foundAt 50 = .ok (.iinc 3 1, 3) := by decide +kernel
theorem dX4_foundAt_53 : decode cX4_foundAt 53 = .ok (.goto (-51), 3) := by decide +kernel
theorem dX4_foundAt_56 : decode cX4_foundAt 56 = .ok (.aconst_null, 1) := by decide +kernel
theorem dX4_foundAt_57 : decode cX4_foundAt 57 = .ok (.areturn, 1) := by decide +kernel
theorem dX4_betterCount_0 : decode cX4_betterCount 0 = .ok (.aload_n 1, 1) := by decide +kernel
theorem dX4_betterCount_1 : decode cX4_betterCount 1 = .ok (.getfield 215, 3) := by decide +kernel
theorem dX4_betterCount_4 : decode cX4_betterCount 4 = .ok (.aload_n 1, 1) := by decide +kernel
theorem dX4_betterCount_5 : decode cX4_betterCount 5 = .ok (.aload_n 2, 1) := by decide +kernel
theorem dX4_betterCount_6 : decode cX4_betterCount 6 = .ok (.invokestatic 218, 3) := by decide +kernel
theorem dX4_betterCount_9 : decode cX4_betterCount 9 = .ok (.istore_n 3, 1) := by decide +kernel
theorem dX4_betterCount_10 : decode cX4_betterCount 10 = .ok (.iconst 0, 1) := by decide +kernel
theorem dX4_betterCount_11 : decode cX4_betterCount 11 = .ok (.istore 4, 2) := by decide +kernel
theorem dX4_betterCount_13 : decode cX4_betterCount 13 = .ok (.iconst 0, 1) := by decide +kernel
theorem dX4_betterCount_14 : decode cX4_betterCount 14 = .ok (.istore 5, 2) := by decide +kernel
theorem dX4_betterCount_16 : decode cX4_betterCount 16 = .ok (.iload 5, 2) := by decide +kernel
theorem dX4_betterCount_18 : decode cX4_betterCount 18 = .ok (.aload_n 0, 1) := by decide +kernel
theorem dX4_betterCount_19 : decode cX4_betterCount 19 = .ok (.getfield 35, 3) := by decide +kernel
theorem dX4_betterCount_22 : decode cX4_betterCount 22 = .ok (.if_icmp .ge 75, 3) := by decide +kernel
theorem dX4_betterCount_25 : decode cX4_betterCount 25 = .ok (.aload_n 0, 1) := by decide +kernel
theorem dX4_betterCount_26 : decode cX4_betterCount 26 = .ok (.iload 5, 2) := by decide +kernel
theorem dX4_betterCount_28 : decode cX4_betterCount 28 = .ok (.invokevirtual 120, 3) := by decide +kernel
theorem dX4_betterCount_31 : decode cX4_betterCount 31 = .ok (.astore 6, 2) := by decide +kernel
theorem dX4_betterCount_33 : decode cX4_betterCount 33 = .ok (.aload 6, 2) := by decide +kernel
theorem dX4_betterCount_35 : decode cX4_betterCount 35 = .ok (.ifnull 56, 3) := by decide +kernel
theorem dX4_betterCount_38 : decode cX4_betterCount 38 = .ok (.aload_n 0, 1) := by decide +kernel
theorem dX4_betterCount_39 : decode cX4_betterCount 39 = .ok (.aload_n 1, 1) := by decide +kernel
theorem dX4_betterCount_40 : decode cX4_betterCount 40 = .ok (.getfield 215, 3) := by decide +kernel
theorem dX4_betterCount_43 : decode cX4_betterCount 43 = .ok (.aload_n 1, 1) := by decide +kernel
theorem dX4_betterCount_44 : decode cX4_betterCount 44 = .ok (.aload 6, 2) := by decide +kernel
theorem dX4_betterCount_46 : decode cX4_betterCount 46 = .ok (.invokevirtual 322, 3) := by decide +kernel
theorem dX4_betterCount_49 : decode cX4_betterCount 49 = .ok (.ifCond .eq 42, 3) := by decide +kernel
theorem dX4_betterCount_52 : decode cX4_betterCount 52 = .ok (.aload_n 1, 1) := by decide +kernel
theorem dX4_betterCount_53 : decode cX4_betterCount 53 = .ok (.getfield 215, 3) := by decide +kernel
theorem dX4_betterCount_56 : decode cX4_betterCount 56 = .ok (.aload_n 1, 1) := by decide +kernel
theorem dX4_betterCount_57 : decode cX4_betterCount 57 = .ok (.aload 6, 2) := by decide +kernel
theorem dX4_betterCount_59 : decode cX4_betterCount 59 = .ok (.invokestatic 218, 3) := by decide +kernel
theorem dX4_betterCount_62 : decode cX4_betterCount 62 = .ok (.istore 7, 2) := by decide +kernel
theorem dX4_betterCount_64 : decode cX4_betterCount 64 = .ok (.iload 7, 2) := by decide +kernel
theorem dX4_betterCount_66 : decode cX4_betterCount 66 = .ok (.iload_n 3, 1) := by decide +kernel
theorem dX4_betterCount_67 : decode cX4_betterCount 67 = .ok (.if_icmp .lt 21, 3) := by decide +kernel
theorem dX4_betterCount_70 : decode cX4_betterCount 70 = .ok (.iload 7, 2) := by decide +kernel
theorem dX4_betterCount_72 : decode cX4_betterCount 72 = .ok (.iload_n 3, 1) := by decide +kernel
theorem dX4_betterCount_73 : decode cX4_betterCount 73 = .ok (.if_icmp .ne 18, 3) := by decide +kernel
theorem dX4_betterCount_76 : decode cX4_betterCount 76 = .ok (.aload 6, 2) := by decide +kernel
theorem dX4_betterCount_78 : decode cX4_betterCount 78 = .ok (.getfield 99, 3) := by decide +kernel
theorem dX4_betterCount_81 : decode cX4_betterCount 81 = .ok (.aload_n 2, 1) := by decide +kernel
theorem dX4_betterCount_82 : decode cX4_betterCount 82 = .ok (.getfield 99, 3) := by decide +kernel
theorem dX4_betterCount_85 : decode cX4_betterCount 85 = .ok (.if_icmp .ge 6, 3) := by decide +kernel
theorem dX4_betterCount_88 : decode cX4_betterCount 88 = .ok (.iinc 4 1, 3) := by decide +kernel
theorem dX4_betterCount_91 : decode cX4_betterCount 91 = .ok (.iinc 5 1, 3) := by decide +kernel
theorem dX4_betterCount_94 : decode cX4_betterCount 94 = .ok (.goto (-78), 3) := by decide +kernel
theorem dX4_betterCount_97 : decode cX4_betterCount 97 = .ok (.iload 4, 2) := by decide +kernel
theorem dX4_betterCount_99 : decode cX4_betterCount 99 = .ok (.ireturn, 1) := by decide +kernel
theorem dX4_helpFor_0 : decode cX4_helpFor 0 = .ok (.iconst 0, 1) := by decide +kernel
theorem dX4_helpFor_1 : decode cX4_helpFor 1 = .ok (.istore_n 2, 1) := by decide +kernel
theorem dX4_helpFor_2 : decode cX4_helpFor 2 = .ok (.iload_n 2, 1) := by decide +kernel
theorem dX4_helpFor_3 : decode cX4_helpFor 3 = .ok (.bipush 40, 2) := by decide +kernel
theorem dX4_helpFor_5 : decode cX4_helpFor 5 = .ok (.if_icmp .ge 34, 3) := by decide +kernel
theorem dX4_helpFor_8 : decode cX4_helpFor 8 = .ok (.aload_n 0, 1) := by decide +kernel
theorem dX4_helpFor_9 : decode cX4_helpFor 9 = .ok (.aload_n 0, 1) := by decide +kernel
theorem dX4_helpFor_10 : decode cX4_helpFor 10 = .ok (.getfield 10, 3) := by decide +kernel
theorem dX4_helpFor_13 : decode cX4_helpFor 13 = .ok (.aload_n 1, 1) := by decide +kernel
theorem dX4_helpFor_14 : decode cX4_helpFor 14 = .ok (.getfield 278, 3) := by decide +kernel
theorem dX4_helpFor_17 : decode cX4_helpFor 17 = .ok (.lconst 1, 1) := by decide +kernel
theorem dX4_helpFor_18 : decode cX4_helpFor 18 = .ok (.iload_n 2, 1) := by decide +kernel
theorem dX4_helpFor_19 : decode cX4_helpFor 19 = .ok (.lshl, 1) := by decide +kernel
theorem dX4_helpFor_20 : decode cX4_helpFor 20 = .ok (.lor, 1) := by decide +kernel
theorem dX4_helpFor_21 : decode cX4_helpFor 21 = .ok (.invokevirtual 279, 3) := by decide +kernel
theorem dX4_helpFor_24 : decode cX4_helpFor 24 = .ok (.aload_n 1, 1) := by decide +kernel
theorem dX4_helpFor_25 : decode cX4_helpFor 25 = .ok (.invokevirtual 230, 3) := by decide +kernel
theorem dX4_helpFor_28 : decode cX4_helpFor 28 = .ok (.ifCond .eq 5, 3) := by decide +kernel
theorem dX4_helpFor_31 : decode cX4_helpFor 31 = .ok (.iload_n 2, 1) := by decide +kernel
theorem dX4_helpFor_32 : decode cX4_helpFor 32 = .ok (.ireturn, 1) := by decide +kernel
theorem dX4_helpFor_33 : decode cX4_helpFor 33 = .ok (.iinc 2 1, 3) := by decide +kernel
theorem dX4_helpFor_36 : decode cX4_helpFor 36 = .ok (.goto (-34), 3) := by decide +kernel
theorem dX4_helpFor_39 : decode cX4_helpFor 39 = .ok (.iconst (-1), 1) := by decide +kernel
theorem dX4_helpFor_40 : decode cX4_helpFor 40 = .ok (.ireturn, 1) := by decide +kernel
theorem dX4_asksInVain_0 : decode cX4_asksInVain 0 = .ok (.iconst 0, 1) := by decide +kernel
theorem dX4_asksInVain_1 : decode cX4_asksInVain 1 = .ok (.istore_n 1, 1) := by decide +kernel
theorem dX4_asksInVain_2 : decode cX4_asksInVain 2 = .ok (.iconst 0, 1) := by decide +kernel
theorem dX4_asksInVain_3 : decode cX4_asksInVain 3 = .ok (.istore_n 2, 1) := by decide +kernel
theorem dX4_asksInVain_4 : decode cX4_asksInVain 4 = .ok (.iload_n 2, 1) := by decide +kernel
theorem dX4_asksInVain_5 : decode cX4_asksInVain 5 = .ok (.aload_n 0, 1) := by decide +kernel
theorem dX4_asksInVain_6 : decode cX4_asksInVain 6 = .ok (.getfield 39, 3) := by decide +kernel
theorem dX4_asksInVain_9 : decode cX4_asksInVain 9 = .ok (.if_icmp .ge 38, 3) := by decide +kernel
theorem dX4_asksInVain_12 : decode cX4_asksInVain 12 = .ok (.aload_n 0, 1) := by decide +kernel
theorem dX4_asksInVain_13 : decode cX4_asksInVain 13 = .ok (.iload_n 2, 1) := by decide +kernel
theorem dX4_asksInVain_14 : decode cX4_asksInVain 14 = .ok (.invokevirtual 207, 3) := by decide +kernel
theorem dX4_asksInVain_17 : decode cX4_asksInVain 17 = .ok (.astore_n 3, 1) := by decide +kernel
theorem dX4_asksInVain_18 : decode cX4_asksInVain 18 = .ok (.aload_n 3, 1) := by decide +kernel
theorem dX4_asksInVain_19 : decode cX4_asksInVain 19 = .ok (.ifnull 22, 3) := by decide +kernel
theorem dX4_asksInVain_22 : decode cX4_asksInVain 22 = .ok (.aload_n 0, 1) := by decide +kernel
theorem dX4_asksInVain_23 : decode cX4_asksInVain 23 = .ok (.aload_n 3, 1) := by decide +kernel
theorem dX4_asksInVain_24 : decode cX4_asksInVain 24 = .ok (.getfield 215, 3) := by decide +kernel
theorem dX4_asksInVain_27 : decode cX4_asksInVain 27 = .ok (.aload_n 3, 1) := by decide +kernel
theorem dX4_asksInVain_28 : decode cX4_asksInVain 28 = .ok (.invokevirtual 230, 3) := by decide +kernel
theorem dX4_asksInVain_31 : decode cX4_asksInVain 31 = .ok (.ifCond .ne 10, 3) := by decide +kernel
theorem dX4_asksInVain_34 : decode cX4_asksInVain 34 = .ok (.iload_n 1, 1) := by decide +kernel
theorem dX4_asksInVain_35 : decode cX4_asksInVain 35 = .ok (.iload_n 2, 1) := by decide +kernel
theorem dX4_asksInVain_36 : decode cX4_asksInVain 36 = .ok (.invokestatic 105, 3) := by decide +kernel
theorem dX4_asksInVain_39 : decode cX4_asksInVain 39 = .ok (.ior, 1) := by decide +kernel
theorem dX4_asksInVain_40 : decode cX4_asksInVain 40 = .ok (.istore_n 1, 1) := by decide +kernel
theorem dX4_asksInVain_41 : decode cX4_asksInVain 41 = .ok (.iinc 2 1, 3) := by decide +kernel
theorem dX4_asksInVain_44 : decode cX4_asksInVain 44 = .ok (.goto (-40), 3) := by decide +kernel
theorem dX4_asksInVain_47 : decode cX4_asksInVain 47 = .ok (.iload_n 1, 1) := by decide +kernel
theorem dX4_asksInVain_48 : decode cX4_asksInVain 48 = .ok (.ireturn, 1) := by decide +kernel
theorem dX4_heapCount_0 : decode cX4_heapCount 0 = .ok (.iload_n 1, 1) := by decide +kernel
theorem dX4_heapCount_1 : decode cX4_heapCount 1 = .ok (.istore_n 2, 1) := by decide +kernel
theorem dX4_heapCount_2 : decode cX4_heapCount 2 = .ok (.iconst 0, 1) := by decide +kernel
theorem dX4_heapCount_3 : decode cX4_heapCount 3 = .ok (.istore_n 3, 1) := by decide +kernel
theorem dX4_heapCount_4 : decode cX4_heapCount 4 = .ok (.iconst 0, 1) := by decide +kernel
theorem dX4_heapCount_5 : decode cX4_heapCount 5 = .ok (.istore 4, 2) := by decide +kernel
theorem dX4_heapCount_7 : decode cX4_heapCount 7 = .ok (.iload 4, 2) := by decide +kernel
theorem dX4_heapCount_9 : decode cX4_heapCount 9 = .ok (.aload_n 0, 1) := by decide +kernel
theorem dX4_heapCount_10 : decode cX4_heapCount 10 = .ok (.getfield 39, 3) := by decide +kernel
theorem dX4_heapCount_13 : decode cX4_heapCount 13 = .ok (.if_icmp .ge 34, 3) := by decide +kernel
theorem dX4_heapCount_16 : decode cX4_heapCount 16 = .ok (.iload_n 2, 1) := by decide +kernel
theorem dX4_heapCount_17 : decode cX4_heapCount 17 = .ok (.iload 4, 2) := by decide +kernel
theorem dX4_heapCount_19 : decode cX4_heapCount 19 = .ok (.invokestatic 105, 3) := by decide +kernel
theorem dX4_heapCount_22 : decode cX4_heapCount 22 = .ok (.iand, 1) := by decide +kernel
theorem dX4_heapCount_23 : decode cX4_heapCount 23 = .ok (.ifCond .eq 18, 3) := by decide +kernel
theorem dX4_heapCount_26 : decode cX4_heapCount 26 = .ok (.iload_n 2, 1) := by decide +kernel
theorem dX4_heapCount_27 : decode cX4_heapCount 27 = .ok (.aload_n 0, 1) := by decide +kernel
theorem dX4_heapCount_28 : decode cX4_heapCount 28 = .ok (.iload 4, 2) := by decide +kernel
theorem dX4_heapCount_30 : decode cX4_heapCount 30 = .ok (.iload_n 1, 1) := by decide +kernel
theorem dX4_heapCount_31 : decode cX4_heapCount 31 = .ok (.invokevirtual 329, 3) := by decide +kernel
theorem dX4_heapCount_34 : decode cX4_heapCount 34 = .ok (.iconst (-1), 1) := by decide +kernel
theorem dX4_heapCount_35 : decode cX4_heapCount 35 = .ok (.ixor, 1) := by decide +kernel
theorem dX4_heapCount_36 : decode cX4_heapCount 36 = .ok (.iand, 1) := by decide +kernel
theorem dX4_heapCount_37 : decode cX4_heapCount 37 = .ok (.istore_n 2, 1) := by decide +kernel
theorem dX4_heapCount_38 : decode cX4_heapCount 38 = .ok (.iinc 3 1, 3) := by decide +kernel
theorem dX4_heapCount_41 : decode cX4_heapCount 41 = .ok (.iinc 4 1, 3) := by decide +kernel
theorem dX4_heapCount_44 : decode cX4_heapCount 44 = .ok (.goto (-37), 3) := by decide +kernel
theorem dX4_heapCount_47 : decode cX4_heapCount 47 = .ok (.iload_n 3, 1) := by decide +kernel
theorem dX4_heapCount_48 : decode cX4_heapCount 48 = .ok (.ireturn, 1) := by decide +kernel
theorem dX4_heapOf_0 : decode cX4_heapOf 0 = .ok (.iload_n 2, 1) := by decide +kernel
theorem dX4_heapOf_1 : decode cX4_heapOf 1 = .ok (.istore_n 3, 1) := by decide +kernel
theorem dX4_heapOf_2 : decode cX4_heapOf 2 = .ok (.iconst 0, 1) := by decide +kernel
theorem dX4_heapOf_3 : decode cX4_heapOf 3 = .ok (.istore 4, 2) := by decide +kernel
theorem dX4_heapOf_5 : decode cX4_heapOf 5 = .ok (.iconst 0, 1) := by decide +kernel
theorem dX4_heapOf_6 : decode cX4_heapOf 6 = .ok (.istore 5, 2) := by decide +kernel
theorem dX4_heapOf_8 : decode cX4_heapOf 8 = .ok (.iload 5, 2) := by decide +kernel
theorem dX4_heapOf_10 : decode cX4_heapOf 10 = .ok (.aload_n 0, 1) := by decide +kernel
theorem dX4_heapOf_11 : decode cX4_heapOf 11 = .ok (.getfield 39, 3) := by decide +kernel
theorem dX4_heapOf_14 : decode cX4_heapOf 14 = .ok (.if_icmp .ge 51, 3) := by decide +kernel
theorem dX4_heapOf_17 : decode cX4_heapOf 17 = .ok (.iload_n 3, 1) := by decide +kernel
theorem dX4_heapOf_18 : decode cX4_heapOf 18 = .ok (.iload 5, 2) := by decide +kernel
theorem dX4_heapOf_20 : decode cX4_heapOf 20 = .ok (.invokestatic 105, 3) := by decide +kernel
theorem dX4_heapOf_23 : decode cX4_heapOf 23 = .ok (.iand, 1) := by decide +kernel
theorem dX4_heapOf_24 : decode cX4_heapOf 24 = .ok (.ifCond .eq 35, 3) := by decide +kernel
theorem dX4_heapOf_27 : decode cX4_heapOf 27 = .ok (.aload_n 0, 1) := by decide +kernel
theorem dX4_heapOf_28 : decode cX4_heapOf 28 = .ok (.iload 5, 2) := by decide +kernel
theorem dX4_heapOf_30 : decode cX4_heapOf 30 = .ok (.iload_n 2, 1) := by decide +kernel
theorem dX4_heapOf_31 : decode cX4_heapOf 31 = .ok (.invokevirtual 329, 3) := by decide +kernel
theorem dX4_heapOf_34 : decode cX4_heapOf 34 = .ok (.istore 6, 2) := by decide +kernel
theorem dX4_heapOf_36 : decode cX4_heapOf 36 = .ok (.iload 6, 2) := by decide +kernel
theorem dX4_heapOf_38 : decode cX4_heapOf 38 = .ok (.iload_n 1, 1) := by decide +kernel
theorem dX4_heapOf_39 : decode cX4_heapOf 39 = .ok (.invokestatic 105, 3) := by decide +kernel
theorem dX4_heapOf_42 : decode cX4_heapOf 42 = .ok (.iand, 1) := by decide +kernel
theorem dX4_heapOf_43 : decode cX4_heapOf 43 = .ok (.ifCond .eq 6, 3) := by decide +kernel
theorem dX4_heapOf_46 : decode cX4_heapOf 46 = .ok (.iload 4, 2) := by decide +kernel
theorem dX4_heapOf_48 : decode cX4_heapOf 48 = .ok (.ireturn, 1) := by decide +kernel
theorem dX4_heapOf_49 : decode cX4_heapOf 49 = .ok (.iload_n 3, 1) := by decide +kernel
theorem dX4_heapOf_50 : decode cX4_heapOf 50 = .ok (.iload 6, 2) := by decide +kernel
theorem dX4_heapOf_52 : decode cX4_heapOf 52 = .ok (.iconst (-1), 1) := by decide +kernel
theorem dX4_heapOf_53 : decode cX4_heapOf 53 = .ok (.ixor, 1) := by decide +kernel
theorem dX4_heapOf_54 : decode cX4_heapOf 54 = .ok (.iand, 1) := by decide +kernel
theorem dX4_heapOf_55 : decode cX4_heapOf 55 = .ok (.istore_n 3, 1) := by decide +kernel
theorem dX4_heapOf_56 : decode cX4_heapOf 56 = .ok (.iinc 4 1, 3) := by decide +kernel
theorem dX4_heapOf_59 : decode cX4_heapOf 59 = .ok (.iinc 5 1, 3) := by decide +kernel
theorem dX4_heapOf_62 : decode cX4_heapOf 62 = .ok (.goto (-54), 3) := by decide +kernel
theorem dX4_heapOf_65 : decode cX4_heapOf 65 = .ok (.iconst (-1), 1) := by decide +kernel
theorem dX4_heapOf_66 : decode cX4_heapOf 66 = .ok (.ireturn, 1) := by decide +kernel
theorem dX4_heapFrom_0 : decode cX4_heapFrom 0 = .ok (.iload_n 1, 1) := by decide +kernel
theorem dX4_heapFrom_1 : decode cX4_heapFrom 1 = .ok (.invokestatic 105, 3) := by decide +kernel
theorem dX4_heapFrom_4 : decode cX4_heapFrom 4 = .ok (.istore_n 3, 1) := by decide +kernel
theorem dX4_heapFrom_5 : decode cX4_heapFrom 5 = .ok (.iconst 0, 1) := by decide +kernel
theorem dX4_heapFrom_6 : decode cX4_heapFrom 6 = .ok (.istore 4, 2) := by decide +kernel
theorem dX4_heapFrom_8 : decode cX4_heapFrom 8 = .ok (.iload 4, 2) := by decide +kernel
theorem dX4_heapFrom_10 : decode cX4_heapFrom 10 = .ok (.bipush 30, 2) := by decide +kernel
theorem dX4_heapFrom_12 : decode cX4_heapFrom 12 = .ok (.if_icmp .ge 63, 3) := by decide +kernel
theorem dX4_heapFrom_15 : decode cX4_heapFrom 15 = .ok (.iconst 0, 1) := by decide +kernel
theorem dX4_heapFrom_16 : decode cX4_heapFrom 16 = .ok (.istore 5, 2) := by decide +kernel
theorem dX4_heapFrom_18 : decode cX4_heapFrom 18 = .ok (.iload 5, 2) := by decide +kernel
theorem dX4_heapFrom_20 : decode cX4_heapFrom 20 = .ok (.aload_n 0, 1) := by decide +kernel
theorem dX4_heapFrom_21 : decode cX4_heapFrom 21 = .ok (.getfield 39, 3) := by decide +kernel
theorem dX4_heapFrom_24 : decode cX4_heapFrom 24 = .ok (.if_icmp .ge 45, 3) := by decide +kernel
theorem dX4_heapFrom_27 : decode cX4_heapFrom 27 = .ok (.iload_n 2, 1) := by decide +kernel
theorem dX4_heapFrom_28 : decode cX4_heapFrom 28 = .ok (.iload_n 3, 1) := by decide +kernel
theorem dX4_heapFrom_29 : decode cX4_heapFrom 29 = .ok (.iconst (-1), 1) := by decide +kernel
theorem dX4_heapFrom_30 : decode cX4_heapFrom 30 = .ok (.ixor, 1) := by decide +kernel
theorem dX4_heapFrom_31 : decode cX4_heapFrom 31 = .ok (.iand, 1) := by decide +kernel
theorem dX4_heapFrom_32 : decode cX4_heapFrom 32 = .ok (.iload 5, 2) := by decide +kernel
theorem dX4_heapFrom_34 : decode cX4_heapFrom 34 = .ok (.invokestatic 105, 3) := by decide +kernel
theorem dX4_heapFrom_37 : decode cX4_heapFrom 37 = .ok (.iand, 1) := by decide +kernel
theorem dX4_heapFrom_38 : decode cX4_heapFrom 38 = .ok (.ifCond .eq 25, 3) := by decide +kernel
theorem dX4_heapFrom_41 : decode cX4_heapFrom 41 = .ok (.aload_n 0, 1) := by decide +kernel
theorem dX4_heapFrom_42 : decode cX4_heapFrom 42 = .ok (.aload_n 0, 1) := by decide +kernel
theorem dX4_heapFrom_43 : decode cX4_heapFrom 43 = .ok (.iload 5, 2) := by decide +kernel
theorem dX4_heapFrom_45 : decode cX4_heapFrom 45 = .ok (.invokevirtual 207, 3) := by decide +kernel
theorem dX4_heapFrom_48 : decode cX4_heapFrom 48 = .ok (.iload_n 3, 1) := by decide +kernel
theorem dX4_heapFrom_49 : decode cX4_heapFrom 49 = .ok (.invokevirtual 332, 3) := by decide +kernel
theorem dX4_heapFrom_52 : decode cX4_heapFrom 52 = .ok (.ifCond .eq 11, 3) := by decide +kernel
theorem dX4_heapFrom_55 : decode cX4_heapFrom 55 = .ok (.iload_n 3, 1) := by decide +kernel
theorem dX4_heapFrom_56 : decode cX4_heapFrom 56 = .ok (.iload 5, 2) := by decide +kernel
theorem dX4_heapFrom_58 : decode cX4_heapFrom 58 = .ok (.invokestatic 105, 3) := by decide +kernel
theorem dX4_heapFrom_61 : decode cX4_heapFrom 61 = .ok (.ior, 1) := by decide +kernel
theorem dX4_heapFrom_62 : decode cX4_heapFrom 62 = .ok (.istore_n 3, 1) := by decide +kernel
theorem dX4_heapFrom_63 : decode cX4_heapFrom 63 = .ok (.iinc 5 1, 3) := by decide +kernel
theorem dX4_heapFrom_66 : decode cX4_heapFrom 66 = .ok (.goto (-48), 3) := by decide +kernel
theorem dX4_heapFrom_69 : decode cX4_heapFrom 69 = .ok (.iinc 4 1, 3) := by decide +kernel
theorem dX4_heapFrom_72 : decode cX4_heapFrom 72 = .ok (.goto (-64), 3) := by decide +kernel
theorem dX4_heapFrom_75 : decode cX4_heapFrom 75 = .ok (.iload_n 3, 1) := by decide +kernel
theorem dX4_heapFrom_76 : decode cX4_heapFrom 76 = .ok (.ireturn, 1) := by decide +kernel
theorem dX4_isNearOne_0 : decode cX4_isNearOne 0 = .ok (.iconst 0, 1) := by decide +kernel
theorem dX4_isNearOne_1 : decode cX4_isNearOne 1 = .ok (.istore_n 3, 1) := by decide +kernel
theorem dX4_isNearOne_2 : decode cX4_isNearOne 2 = .ok (.aload_n 1, 1) := by decide +kernel
theorem dX4_isNearOne_3 : decode cX4_isNearOne 3 = .ok (.ifnull 59, 3) := by decide +kernel
theorem dX4_isNearOne_6 : decode cX4_isNearOne 6 = .ok (.iload_n 3, 1) := by decide +kernel
theorem dX4_isNearOne_7 : decode cX4_isNearOne 7 = .ok (.aload_n 0, 1) := by decide +kernel
theorem dX4_isNearOne_8 : decode cX4_isNearOne 8 = .ok (.getfield 39, 3) := by decide +kernel
theorem dX4_isNearOne_11 : decode cX4_isNearOne 11 = .ok (.if_icmp .ge 51, 3) := by decide +kernel
theorem dX4_isNearOne_14 : decode cX4_isNearOne 14 = .ok (.aload_n 0, 1) := by decide +kernel
theorem dX4_isNearOne_15 : decode cX4_isNearOne 15 = .ok (.iload_n 3, 1) := by decide +kernel
theorem dX4_isNearOne_16 : decode cX4_isNearOne 16 = .ok (.invokevirtual 207, 3) := by decide +kernel
theorem dX4_isNearOne_19 : decode cX4_isNearOne 19 = .ok (.astore 4, 2) := by decide +kernel
theorem dX4_isNearOne_21 : decode cX4_isNearOne 21 = .ok (.aload 4, 2) := by decide +kernel
theorem dX4_isNearOne_23 : decode cX4_isNearOne 23 = .ok (.ifnull 33, 3) := by decide +kernel
theorem dX4_isNearOne_26 : decode cX4_isNearOne 26 = .ok (.iload_n 2, 1) := by decide +kernel
theorem dX4_isNearOne_27 : decode cX4_isNearOne 27 = .ok (.iload_n 3, 1) := by decide +kernel
theorem dX4_isNearOne_28 : decode cX4_isNearOne 28 = .ok (.invokestatic 105, 3) := by decide +kernel
theorem dX4_isNearOne_31 : decode cX4_isNearOne 31 = .ok (.iand, 1) := by decide +kernel
theorem dX4_isNearOne_32 : decode cX4_isNearOne 32 = .ok (.ifCond .eq 24, 3) := by decide +kernel
theorem dX4_isNearOne_35 : decode cX4_isNearOne 35 = .ok (.aload_n 1, 1) := by decide +kernel
theorem dX4_isNearOne_36 : decode cX4_isNearOne 36 = .ok (.getfield 215, 3) := by decide +kernel
theorem dX4_isNearOne_39 : decode cX4_isNearOne 39 = .ok (.aload 4, 2) := by decide +kernel
theorem dX4_isNearOne_41 : decode cX4_isNearOne 41 = .ok (.getfield 215, 3) := by decide +kernel
theorem dX4_isNearOne_44 : decode cX4_isNearOne 44 = .ok (.invokestatic 302, 3) := by decide +kernel
theorem dX4_isNearOne_47 : decode cX4_isNearOne 47 = .ok (.aload_n 0, 1) := by decide +kernel
theorem dX4_isNearOne_48 : decode cX4_isNearOne 48 = .ok (.getfield 42, 3) := by decide +kernel
theorem dX4_isNearOne_51 : decode cX4_isNearOne 51 = .ok (.if_icmp .gt 5, 3) := by decide +kernel
theorem dX4_isNearOne_54 : decode cX4_isNearOne 54 = .ok (.iconst 1, 1) := by decide +kernel
theorem dX4_isNearOne_55 : decode cX4_isNearOne 55 = .ok (.ireturn, 1) := by decide +kernel
theorem dX4_isNearOne_56 : decode cX4_isNearOne 56 = .ok (.iinc 3 1, 3) := by decide +kernel
theorem dX4_isNearOne_59 : decode cX4_isNearOne 59 = .ok (.goto (-57), 3) := by decide +kernel
theorem dX4_isNearOne_62 : decode cX4_isNearOne 62 = .ok (.iconst 0, 1) := by decide +kernel
theorem dX4_isNearOne_63 : decode cX4_isNearOne 63 = .ok (.ireturn, 1) := by decide +kernel
end
section
theorem dX5_init_0 : decode cX5_init 0 = .ok (.aload_n 0, 1) := by decide +kernel
theorem dX5_init_1 : decode cX5_init 1 = .ok (.invokespecial 1, 3) := by decide +kernel
theorem dX5_init_4 : decode cX5_init 4 = .ok (.aload_n 0, 1) := by decide +kernel
theorem dX5_init_5 : decode cX5_init 5 = .ok (.bipush 40, 2) := by decide +kernel
theorem dX5_init_7 : decode cX5_init 7 = .ok (.newarray .int, 2) := by decide +kernel
theorem dX5_init_9 : decode cX5_init 9 = .ok (.putfield 7, 3) := by decide +kernel
theorem dX5_init_12 : decode cX5_init 12 = .ok (.aload_n 0, 1) := by decide +kernel
theorem dX5_init_13 : decode cX5_init 13 = .ok (.bipush 10, 2) := by decide +kernel
theorem dX5_init_15 : decode cX5_init 15 = .ok (.newarray .int, 2) := by decide +kernel
theorem dX5_init_17 : decode cX5_init 17 = .ok (.putfield 13, 3) := by decide +kernel
theorem dX5_init_20 : decode cX5_init 20 = .ok (.aload_n 0, 1) := by decide +kernel
theorem dX5_init_21 : decode cX5_init 21 = .ok (.bipush 10, 2) := by decide +kernel
theorem dX5_init_23 : decode cX5_init 23 = .ok (.newarray .int, 2) := by decide +kernel
theorem dX5_init_25 : decode cX5_init 25 = .ok (.putfield 16, 3) := by decide +kernel
theorem dX5_init_28 : decode cX5_init 28 = .ok (.aload_n 0, 1) := by decide +kernel
theorem dX5_init_29 : decode cX5_init 29 = .ok (.iconst 2, 1) := by decide +kernel
theorem dX5_init_30 : decode cX5_init 30 = .ok (.putfield 19, 3) := by decide +kernel
theorem dX5_init_33 : decode cX5_init 33 = .ok (.aload_n 0, 1) := by decide +kernel
theorem dX5_init_34 : decode cX5_init 34 = .ok (.bipush 20, 2) := by decide +kernel
theorem dX5_init_36 : decode cX5_init 36 = .ok (.putfield 23, 3) := by decide +kernel
theorem dX5_init_39 : decode cX5_init 39 = .ok (.aload_n 0, 1) := by decide +kernel
theorem dX5_init_40 : decode cX5_init 40 = .ok (.bipush 24, 2) := by decide +kernel
theorem dX5_init_42 : decode cX5_init 42 = .ok (.newarray .int, 2) := by decide +kernel
theorem dX5_init_44 : decode cX5_init 44 = .ok (.putfield 26, 3) := by decide +kernel
theorem dX5_init_47 : decode cX5_init 47 = .ok (.aload_n 0, 1) := by decide +kernel
theorem dX5_init_48 : decode cX5_init 48 = .ok (.bipush 24, 2) := by decide +kernel
theorem dX5_init_50 : decode cX5_init 50 = .ok (.newarray .int, 2) := by decide +kernel
theorem dX5_init_52 : decode cX5_init 52 = .ok (.putfield 29, 3) := by decide +kernel
theorem dX5_init_55 : decode cX5_init 55 = .ok (.aload_n 0, 1) := by decide +kernel
theorem dX5_init_56 : decode cX5_init 56 = .ok (.bipush 24, 2) := by decide +kernel
theorem dX5_init_58 : decode cX5_init 58 = .ok (.newarray .long, 2) := by decide +kernel
theorem dX5_init_60 : decode cX5_init 60 = .ok (.putfield 32, 3) := by decide +kernel
theorem dX5_init_63 : decode cX5_init 63 = .ok (.aload_n 0, 1) := by decide +kernel
theorem dX5_init_64 : decode cX5_init 64 = .ok (.bipush 24, 2) := by decide +kernel
theorem dX5_init_66 : decode cX5_init 66 = .ok (.newarray .int, 2) := by decide +kernel
theorem dX5_init_68 : decode cX5_init 68 = .ok (.putfield 36, 3) := by decide +kernel
theorem dX5_init_71 : decode cX5_init 71 = .ok (.aload_n 0, 1) := by decide +kernel
theorem dX5_init_72 : decode cX5_init 72 = .ok (.bipush 72, 2) := by decide +kernel
theorem dX5_init_74 : decode cX5_init 74 = .ok (.newarray .int, 2) := by decide +kernel
theorem dX5_init_76 : decode cX5_init 76 = .ok (.putfield 39, 3) := by decide +kernel
theorem dX5_init_79 : decode cX5_init 79 = .ok (.aload_n 0, 1) := by decide +kernel
theorem dX5_init_80 : decode cX5_init 80 = .ok (.bipush 24, 2) := by decide +kernel
theorem dX5_init_82 : decode cX5_init 82 = .ok (.newarray .int, 2) := by decide +kernel
theorem dX5_init_84 : decode cX5_init 84 = .ok (.putfield 42, 3) := by decide +kernel
theorem dX5_init_87 : decode cX5_init 87 = .ok (.aload_n 0, 1) := by decide +kernel
theorem dX5_init_88 : decode cX5_init 88 = .ok (.bipush 24, 2) := by decide +kernel
theorem dX5_init_90 : decode cX5_init 90 = .ok (.newarray .int, 2) := by decide +kernel
theorem dX5_init_92 : decode cX5_init 92 = .ok (.putfield 45, 3) := by decide +kernel
theorem dX5_init_95 : decode cX5_init 95 = .ok (.aload_n 0, 1) := by decide +kernel
theorem dX5_init_96 : decode cX5_init 96 = .ok (.bipush 24, 2) := by decide +kernel
theorem dX5_init_98 : decode cX5_init 98 = .ok (.newarray .int, 2) := by decide +kernel
theorem dX5_init_100 : decode cX5_init 100 = .ok (.putfield 48, 3) := by decide +kernel
theorem dX5_init_103 : decode cX5_init 103 = .ok (.aload_n 0, 1) := by decide +kernel
theorem dX5_init_104 : decode cX5_init 104 = .ok (.bipush 96, 2) := by decide +kernel
theorem dX5_init_106 : decode cX5_init 106 = .ok (.newarray .int, 2) := by decide +kernel
theorem dX5_init_108 : decode cX5_init 108 = .ok (.putfield 51, 3) := by decide +kernel
theorem dX5_init_111 : decode cX5_init 111 = .ok (.aload_n 0, 1) := by decide +kernel
theorem dX5_init_112 : decode cX5_init 112 = .ok (.bipush 30, 2) := by decide +kernel
theorem dX5_init_114 : decode cX5_init 114 = .ok (.newarray .long, 2) := by decide +kernel
theorem dX5_init_116 : decode cX5_init 116 = .ok (.putfield 54, 3) := by decide +kernel
theorem dX5_init_119 : decode cX5_init 119 = .ok (.aload_n 0, 1) := by decide +kernel
theorem dX5_init_120 : decode cX5_init 120 = .ok (.bipush 90, 2) := by decide +kernel
theorem dX5_init_122 : decode cX5_init 122 = .ok (.newarray .int, 2) := by decide +kernel
theorem dX5_init_124 : decode cX5_init 124 = .ok (.putfield 57, 3) := by decide +kernel
theorem dX5_init_127 : decode cX5_init 127 = .ok (.aload_n 0, 1) := by decide +kernel
theorem dX5_init_128 : decode cX5_init 128 = .ok (.bipush 24, 2) := by decide +kernel
theorem dX5_init_130 : decode cX5_init 130 = .ok (.newarray .boolean, 2) := by decide +kernel
theorem dX5_init_132 : decode cX5_init 132 = .ok (.putfield 60, 3) := by decide +kernel
theorem dX5_init_135 : decode cX5_init 135 = .ok (.aload_n 0, 1) := by decide +kernel
theorem dX5_init_136 : decode cX5_init 136 = .ok (.bipush 24, 2) := by decide +kernel
theorem dX5_init_138 : decode cX5_init 138 = .ok (.newarray .long, 2) := by decide +kernel
theorem dX5_init_140 : decode cX5_init 140 = .ok (.putfield 64, 3) := by decide +kernel
theorem dX5_init_143 : decode cX5_init 143 = .ok (.aload_n 0, 1) := by decide +kernel
theorem dX5_init_144 : decode cX5_init 144 = .ok (.bipush 72, 2) := by decide +kernel
theorem dX5_init_146 : decode cX5_init 146 = .ok (.newarray .int, 2) := by decide +kernel
theorem dX5_init_148 : decode cX5_init 148 = .ok (.putfield 67, 3) := by decide +kernel
theorem dX5_init_151 : decode cX5_init 151 = .ok (.aload_n 0, 1) := by decide +kernel
theorem dX5_init_152 : decode cX5_init 152 = .ok (.bipush 24, 2) := by decide +kernel
theorem dX5_init_154 : decode cX5_init 154 = .ok (.newarray .int, 2) := by decide +kernel
theorem dX5_init_156 : decode cX5_init 156 = .ok (.putfield 70, 3) := by decide +kernel
theorem dX5_init_159 : decode cX5_init 159 = .ok (.aload_n 0, 1) := by decide +kernel
theorem dX5_init_160 : decode cX5_init 160 = .ok (.bipush 24, 2) := by decide +kernel
theorem dX5_init_162 : decode cX5_init 162 = .ok (.newarray .boolean, 2) := by decide +kernel
theorem dX5_init_164 : decode cX5_init 164 = .ok (.putfield 73, 3) := by decide +kernel
theorem dX5_init_167 : decode cX5_init 167 = .ok (.aload_n 0, 1) := by decide +kernel
theorem dX5_init_168 : decode cX5_init 168 = .ok (.bipush 30, 2) := by decide +kernel
theorem dX5_init_170 : decode cX5_init 170 = .ok (.newarray .int, 2) := by decide +kernel
theorem dX5_init_172 : decode cX5_init 172 = .ok (.putfield 76, 3) := by decide +kernel
theorem dX5_init_175 : decode cX5_init 175 = .ok (.iconst 0, 1) := by decide +kernel
theorem dX5_init_176 : decode cX5_init 176 = .ok (.istore_n 1, 1) := by decide +kernel
theorem dX5_init_177 : decode cX5_init 177 = .ok (.iload_n 1, 1) := by decide +kernel
theorem dX5_init_178 : decode cX5_init 178 = .ok (.bipush 40, 2) := by decide +kernel
theorem dX5_init_180 : decode cX5_init 180 = .ok (.if_icmp .ge 16, 3) := by decide +kernel
theorem dX5_init_183 : decode cX5_init 183 = .ok (.aload_n 0, 1) := by decide +kernel
theorem dX5_init_184 : decode cX5_init 184 = .ok (.getfield 7, 3) := by decide +kernel
theorem dX5_init_187 : decode cX5_init 187 = .ok (.iload_n 1, 1) := by decide +kernel
theorem dX5_init_188 : decode cX5_init 188 = .ok (.iload_n 1, 1) := by decide +kernel
theorem dX5_init_189 : decode cX5_init 189 = .ok (.iastore, 1) := by decide +kernel
theorem dX5_init_190 : decode cX5_init 190 = .ok (.iinc 1 1, 3) := by decide +kernel
theorem dX5_init_193 : decode cX5_init 193 = .ok (.goto (-16), 3) := by decide +kernel
theorem dX5_init_196 : decode cX5_init 196 = .ok (.return_, 1) := by decide +kernel
theorem dX5_in_0 : decode cX5_in 0 = .ok (.lload_n 0, 1) := by decide +kernel
theorem dX5_in_1 : decode cX5_in 1 = .ok (.lload_n 2, 1) := by decide +kernel
theorem dX5_in_2 : decode cX5_in 2 = .ok (.lcmp, 1) := by decide +kernel
theorem dX5_in_3 : decode cX5_in 3 = .ok (.ifCond .lt 14, 3) := by decide +kernel
theorem dX5_in_6 : decode cX5_in 6 = .ok (.lload_n 0, 1) := by decide +kernel
theorem dX5_in_7 : decode cX5_in 7 = .ok (.lload 4, 2) := by decide +kernel
theorem dX5_in_9 : decode cX5_in 9 = .ok (.lcmp, 1) := by decide +kernel
theorem dX5_in_10 : decode cX5_in 10 = .ok (.ifCond .gt 7, 3) := by decide +kernel
theorem dX5_in_13 : decode cX5_in 13 = .ok (.iconst 1, 1) := by decide +kernel
theorem dX5_in_14 : decode cX5_in 14 = .ok (.goto 4, 3) := by decide +kernel
theorem dX5_in_17 : decode cX5_in 17 = .ok (.iconst 0, 1) := by decide +kernel
theorem dX5_in_18 : decode cX5_in 18 = .ok (.ireturn, 1) := by decide +kernel
theorem dX5_is_0 : decode cX5_is 0 = .ok (.iload_n 1, 1) := by decide +kernel
theorem dX5_is_1 : decode cX5_is 1 = .ok (.i2l, 1) := by decide +kernel
theorem dX5_is_2 : decode cX5_is 2 = .ok (.lconst 0, 1) := by decide +kernel
theorem dX5_is_3 : decode cX5_is 3 = .ok (.aload_n 0, 1) := by decide +kernel
theorem dX5_is_4 : decode cX5_is 4 = .ok (.getfield 79, 3) := by decide +kernel
theorem dX5_is_7 : decode cX5_is 7 = .ok (.iconst 1, 1) := by decide +kernel
theorem dX5_is_8 : decode cX5_is 8 = .ok (.isub, 1) := by decide +kernel
theorem dX5_is_9 : decode cX5_is 9 = .ok (.i2l, 1) := by decide +kernel
theorem dX5_is_10 : decode cX5_is 10 = .ok (.invokestatic 82, 3) := by decide +kernel
theorem dX5_is_13 : decode cX5_is 13 = .ok (.ireturn, 1) := by decide +kernel
theorem dX5_isPlain_0 : decode cX5_isPlain 0 = .ok (.aload_n 0, 1) := by decide +kernel
theorem dX5_isPlain_1 : decode cX5_isPlain 1 = .ok (.getfield 26, 3) := by decide +kernel
theorem dX5_isPlain_4 : decode cX5_isPlain 4 = .ok (.iload_n 1, 1) := by decide +kernel
theorem dX5_isPlain_5 : decode cX5_isPlain 5 = .ok (.iaload, 1) := by decide +kernel
theorem dX5_isPlain_6 : decode cX5_isPlain 6 = .ok (.ifCond .ne 16, 3) := by decide +kernel
theorem dX5_isPlain_9 : decode cX5_isPlain 9 = .ok (.aload_n 0, 1) := by decide +kernel
theorem dX5_isPlain_10 : decode cX5_isPlain 10 = .ok (.getfield 29, 3) := by decide +kernel
theorem dX5_isPlain_13 : decode cX5_isPlain 13 = .ok (.iload_n 1, 1) := by decide +kernel
theorem dX5_isPlain_14 : decode cX5_isPlain 14 = .ok (.iaload, 1) := by decide +kernel
theorem dX5_isPlain_15 : decode cX5_isPlain 15 = .ok (.ifCond .ge 7, 3) := by decide +kernel
theorem dX5_isPlain_18 : decode cX5_isPlain 18 = .ok (.iconst 1, 1) := by decide +kernel
theorem dX5_isPlain_19 : decode cX5_isPlain 19 = .ok (.goto 4, 3) := by decide +kernel
theorem dX5_isPlain_22 : decode cX5_isPlain 22 = .ok (.iconst 0, 1) := by decide +kernel
theorem dX5_isPlain_23 : decode cX5_isPlain 23 = .ok (.ireturn, 1) := by decide +kernel
theorem dX5_endOf_0 : decode cX5_endOf 0 = .ok (.iload_n 1, 1) := by decide +kernel
theorem dX5_endOf_1 : decode cX5_endOf 1 = .ok (.istore_n 2, 1) := by decide +kernel
theorem dX5_endOf_2 : decode cX5_endOf 2 = .ok (.aload_n 0, 1) := by decide +kernel
theorem dX5_endOf_3 : decode cX5_endOf 3 = .ok (.getfield 29, 3) := by decide +kernel
theorem dX5_endOf_6 : decode cX5_endOf 6 = .ok (.iload_n 2, 1) := by decide +kernel
theorem dX5_endOf_7 : decode cX5_endOf 7 = .ok (.iaload, 1) := by decide +kernel
theorem dX5_endOf_8 : decode cX5_endOf 8 = .ok (.ifCond .lt 13, 3) := by decide +kernel
theorem dX5_endOf_11 : decode cX5_endOf 11 = .ok (.aload_n 0, 1) := by decide +kernel
theorem dX5_endOf_12 : decode cX5_endOf 12 = .ok (.getfield 29, 3) := by decide +kernel
theorem dX5_endOf_15 : decode cX5_endOf 15 = .ok (.iload_n 2, 1) := by decide +kernel
theorem dX5_endOf_16 : decode cX5_endOf 16 = .ok (.iaload, 1) := by decide +kernel
theorem dX5_endOf_17 : decode cX5_endOf 17 = .ok (.istore_n 2, 1) := by decide +kernel
theorem dX5_endOf_18 : decode cX5_endOf 18 = .ok (.goto (-16), 3) := by decide +kernel
theorem dX5_endOf_21 : decode cX5_endOf 21 = .ok (.iload_n 2, 1) := by decide +kernel
theorem dX5_endOf_22 : decode cX5_endOf 22 = .ok (.ireturn, 1) := by decide +kernel
theorem dX5_allOf_0 : decode cX5_allOf 0 = .ok (.iload_n 0, 1) := by decide +kernel
theorem dX5_allOf_1 : decode cX5_allOf 1 = .ok (.ifCond .ne 9, 3) := by decide +kernel
theorem dX5_allOf_4 : decode cX5_allOf 4 = .ok (.sipush 255, 3) := by decide +kernel
theorem dX5_allOf_7 : decode cX5_allOf 7 = .ok (.goto 16, 3) := by decide +kernel
theorem dX5_allOf_10 : decode cX5_allOf 10 = .ok (.iload_n 0, 1) := by decide +kernel
theorem dX5_allOf_11 : decode cX5_allOf 11 = .ok (.iconst 1, 1) := by decide +kernel
theorem dX5_allOf_12 : decode cX5_allOf 12 = .ok (.if_icmp .ne 9, 3) := by decide +kernel
theorem dX5_allOf_15 : decode cX5_allOf 15 = .ok (.sipush 1023, 3) := by decide +kernel
theorem dX5_allOf_18 : decode cX5_allOf 18 = .ok (.goto 5, 3) := by decide +kernel
theorem dX5_allOf_21 : decode cX5_allOf 21 = .ok (.bipush 15, 2) := by decide +kernel
theorem dX5_allOf_23 : decode cX5_allOf 23 = .ok (.ireturn, 1) := by decide +kernel
theorem dX5_fold_0 : decode cX5_fold 0 = .ok (.iload_n 1, 1) := by decide +kernel
theorem dX5_fold_1 : decode cX5_fold 1 = .ok (.i2l, 1) := by decide +kernel
theorem dX5_fold_2 : decode cX5_fold 2 = .ok (.lconst 0, 1) := by decide +kernel
theorem dX5_fold_3 : decode cX5_fold 3 = .ok (.ldc2_w 86, 3) := by decide +kernel
theorem dX5_fold_6 : decode cX5_fold 6 = .ok (.invokestatic 82, 3) := by decide +kernel
theorem dX5_fold_9 : decode cX5_fold 9 = .ok (.ifCond .eq 15, 3) := by decide +kernel
theorem dX5_fold_12 : decode cX5_fold 12 = .ok (.iload_n 2, 1) := by decide +kernel
theorem dX5_fold_13 : decode cX5_fold 13 = .ok (.i2l, 1) := by decide +kernel
theorem dX5_fold_14 : decode cX5_fold 14 = .ok (.lconst 0, 1) := by decide +kernel
theorem dX5_fold_15 : decode cX5_fold 15 = .ok (.ldc2_w 86, 3) := by decide +kernel
theorem dX5_fold_18 : decode cX5_fold 18 = .ok (.invokestatic 82, 3) := by decide +kernel
theorem dX5_fold_21 : decode cX5_fold 21 = .ok (.ifCond .ne 7, 3) := by decide +kernel
theorem dX5_fold_24 : decode cX5_fold 24 = .ok (.sipush (-1002), 3) := by decide +kernel
theorem dX5_fold_27 : decode cX5_fold 27 = .ok (.ireturn, 1) := by decide +kernel
theorem dX5_fold_28 : decode cX5_fold 28 = .ok (.aload_n 0, 1) := by decide +kernel
theorem dX5_fold_29 : decode cX5_fold 29 = .ok (.getfield 7, 3) := by decide +kernel
theorem dX5_fold_32 : decode cX5_fold 32 = .ok (.iload_n 1, 1) := by decide +kernel
theorem dX5_fold_33 : decode cX5_fold 33 = .ok (.iaload, 1) := by decide +kernel
theorem dX5_fold_34 : decode cX5_fold 34 = .ok (.istore_n 3, 1) := by decide +kernel
theorem dX5_fold_35 : decode cX5_fold 35 = .ok (.aload_n 0, 1) := by decide +kernel
theorem dX5_fold_36 : decode cX5_fold 36 = .ok (.getfield 7, 3) := by decide +kernel
theorem dX5_fold_39 : decode cX5_fold 39 = .ok (.iload_n 1, 1) := by decide +kernel
theorem dX5_fold_40 : decode cX5_fold 40 = .ok (.iload_n 2, 1) := by decide +kernel
theorem dX5_fold_41 : decode cX5_fold 41 = .ok (.iastore, 1) := by decide +kernel
theorem dX5_fold_42 : decode cX5_fold 42 = .ok (.iload_n 3, 1) := by decide +kernel
theorem dX5_fold_43 : decode cX5_fold 43 = .ok (.ireturn, 1) := by decide +kernel
theorem dX5_folded_0 : decode cX5_folded 0 = .ok (.lconst 0, 1) := by decide +kernel
theorem dX5_folded_1 : decode cX5_folded 1 = .ok (.lstore_n 3, 1) := by decide +kernel
theorem dX5_folded_2 : decode cX5_folded 2 = .ok (.iconst 0, 1) := by decide +kernel
theorem dX5_folded_3 : decode cX5_folded 3 = .ok (.istore 5, 2) := by decide +kernel
theorem dX5_folded_5 : decode cX5_folded 5 = .ok (.iload 5, 2) := by decide +kernel
theorem dX5_folded_7 : decode cX5_folded 7 = .ok (.bipush 40, 2) := by decide +kernel
theorem dX5_folded_9 : decode cX5_folded 9 = .ok (.if_icmp .ge 26, 3) := by decide +kernel
theorem dX5_folded_12 : decode cX5_folded 12 = .ok (.lload_n 3, 1) := by decide +kernel
theorem dX5_folded_13 : decode cX5_folded 13 = .ok (.lload_n 1, 1) := by decide +kernel
theorem dX5_folded_14 : decode cX5_folded 14 = .ok (.iload 5, 2) := by decide +kernel
theorem dX5_folded_16 : decode cX5_folded 16 = .ok (.lshr, 1) := by decide +kernel
theorem dX5_folded_17 : decode cX5_folded 17 = .ok (.lconst 1, 1) := by decide +kernel
theorem dX5_folded_18 : decode cX5_folded 18 = .ok (.land, 1) := by decide +kernel
theorem dX5_folded_19 : decode cX5_folded 19 = .ok (.aload_n 0, 1) := by decide +kernel
theorem dX5_folded_20 : decode cX5_folded 20 = .ok (.getfield 7, 3) := by decide +kernel
theorem dX5_folded_23 : decode cX5_folded 23 = .ok (.iload 5, 2) := by decide +kernel
theorem dX5_folded_25 : decode cX5_folded 25 = .ok (.iaload, 1) := by decide +kernel
theorem dX5_folded_26 : decode cX5_folded 26 = .ok (.lshl, 1) := by decide +kernel
theorem dX5_folded_27 : decode cX5_folded 27 = .ok (.lor, 1) := by decide +kernel
theorem dX5_folded_28 : decode cX5_folded 28 = .ok (.lstore_n 3, 1) := by decide +kernel
theorem dX5_folded_29 : decode cX5_folded 29 = .ok (.iinc 5 1, 3) := by decide +kernel
theorem dX5_folded_32 : decode cX5_folded 32 = .ok (.goto (-27), 3) := by decide +kernel
theorem dX5_folded_35 : decode cX5_folded 35 = .ok (.lload_n 3, 1) := by decide +kernel
theorem dX5_folded_36 : decode cX5_folded 36 = .ok (.lreturn, 1) := by decide +kernel
theorem dX5_many_0 : decode cX5_many 0 = .ok (.iconst 0, 1) := by decide +kernel
theorem dX5_many_1 : decode cX5_many 1 = .ok (.istore_n 2, 1) := by decide +kernel
theorem dX5_many_2 : decode cX5_many 2 = .ok (.iconst 0, 1) := by decide +kernel
theorem dX5_many_3 : decode cX5_many 3 = .ok (.istore_n 3, 1) := by decide +kernel
theorem dX5_many_4 : decode cX5_many 4 = .ok (.iload_n 3, 1) := by decide +kernel
theorem dX5_many_5 : decode cX5_many 5 = .ok (.bipush 40, 2) := by decide +kernel
theorem dX5_many_7 : decode cX5_many 7 = .ok (.if_icmp .ge 18, 3) := by decide +kernel
theorem dX5_many_10 : decode cX5_many 10 = .ok (.iload_n 2, 1) := by decide +kernel
theorem dX5_many_11 : decode cX5_many 11 = .ok (.lload_n 0, 1) := by decide +kernel
theorem dX5_many_12 : decode cX5_many 12 = .ok (.iload_n 3, 1) := by decide +kernel
theorem dX5_many_13 : decode cX5_many 13 = .ok (.lshr, 1) := by decide +kernel
theorem dX5_many_14 : decode cX5_many 14 = .ok (.lconst 1, 1) := by decide +kernel
theorem dX5_many_15 : decode cX5_many 15 = .ok (.land, 1) := by decide +kernel
theorem dX5_many_16 : decode cX5_many 16 = .ok (.l2i, 1) := by decide +kernel
theorem dX5_many_17 : decode cX5_many 17 = .ok (.iadd, 1) := by decide +kernel
theorem dX5_many_18 : decode cX5_many 18 = .ok (.istore_n 2, 1) := by decide +kernel
theorem dX5_many_19 : decode cX5_many 19 = .ok (.iinc 3 1, 3) := by decide +kernel
theorem dX5_many_22 : decode cX5_many 22 = .ok (.goto (-18), 3) := by decide +kernel
theorem dX5_many_25 : decode cX5_many 25 = .ok (.iload_n 2, 1) := by decide +kernel
theorem dX5_many_26 : decode cX5_many 26 = .ok (.ireturn, 1) := by decide +kernel
theorem dX5_changed_0 : decode cX5_changed 0 = .ok (.iload_n 1, 1) := by decide +kernel
theorem dX5_changed_1 : decode cX5_changed 1 = .ok (.i2l, 1) := by decide +kernel
theorem dX5_changed_2 : decode cX5_changed 2 = .ok (.lconst 0, 1) := by decide +kernel
theorem dX5_changed_3 : decode cX5_changed 3 = .ok (.ldc2_w 88, 3) := by decide +kernel
theorem dX5_changed_6 : decode cX5_changed 6 = .ok (.invokestatic 82, 3) := by decide +kernel
theorem dX5_changed_9 : decode cX5_changed 9 = .ok (.ifCond .ne 7, 3) := by decide +kernel
theorem dX5_changed_12 : decode cX5_changed 12 = .ok (.sipush (-1001), 3) := by decide +kernel
theorem dX5_changed_15 : decode cX5_changed 15 = .ok (.ireturn, 1) := by decide +kernel
theorem dX5_changed_16 : decode cX5_changed 16 = .ok (.aload_n 0, 1) := by decide +kernel
theorem dX5_changed_17 : decode cX5_changed 17 = .ok (.dup, 1) := by decide +kernel
theorem dX5_changed_18 : decode cX5_changed 18 = .ok (.getfield 90, 3) := by decide +kernel
theorem dX5_changed_21 : decode cX5_changed 21 = .ok (.iconst 1, 1) := by decide +kernel
theorem dX5_changed_22 : decode cX5_changed 22 = .ok (.iadd, 1) := by decide +kernel
theorem dX5_changed_23 : decode cX5_changed 23 = .ok (.putfield 90, 3) := by decide +kernel
theorem dX5_changed_26 : decode cX5_changed 26 = .ok (.aload_n 0, 1) := by decide +kernel
theorem dX5_changed_27 : decode cX5_changed 27 = .ok (.getfield 16, 3) := by decide +kernel
theorem dX5_changed_30 : decode cX5_changed 30 = .ok (.iload_n 1, 1) := by decide +kernel
theorem dX5_changed_31 : decode cX5_changed 31 = .ok (.aload_n 0, 1) := by decide +kernel
theorem dX5_changed_32 : decode cX5_changed 32 = .ok (.getfield 90, 3) := by decide +kernel
theorem dX5_changed_35 : decode cX5_changed 35 = .ok (.iastore, 1) := by decide +kernel
theorem dX5_changed_36 : decode cX5_changed 36 = .ok (.aload_n 0, 1) := by decide +kernel
theorem dX5_changed_37 : decode cX5_changed 37 = .ok (.getfield 13, 3) := by decide +kernel
theorem dX5_changed_40 : decode cX5_changed 40 = .ok (.iload_n 1, 1) := by decide +kernel
theorem dX5_changed_41 : decode cX5_changed 41 = .ok (.dup2, 1) := by decide +kernel
theorem dX5_changed_42 : decode cX5_changed 42 = .ok (.iaload, 1) := by decide +kernel
theorem dX5_changed_43 : decode cX5_changed 43 = .ok (.iconst 1, 1) := by decide +kernel
theorem dX5_changed_44 : decode cX5_changed 44 = .ok (.iadd, 1) := by decide +kernel
theorem dX5_changed_45 : decode cX5_changed 45 = .ok (.iastore, 1) := by decide +kernel
theorem dX5_changed_46 : decode cX5_changed 46 = .ok (.aload_n 0, 1) := by decide +kernel
theorem dX5_changed_47 : decode cX5_changed 47 = .ok (.getfield 13, 3) := by decide +kernel
theorem dX5_changed_50 : decode cX5_changed 50 = .ok (.iload_n 1, 1) := by decide +kernel
theorem dX5_changed_51 : decode cX5_changed 51 = .ok (.iaload, 1) := by decide +kernel
theorem dX5_changed_52 : decode cX5_changed 52 = .ok (.ireturn, 1) := by decide +kernel
theorem dX5_rule_0 : decode cX5_rule 0 = .ok (.iload_n 1, 1) := by decide +kernel
theorem dX5_rule_1 : decode cX5_rule 1 = .ok (.i2l, 1) := by decide +kernel
theorem dX5_rule_2 : decode cX5_rule 2 = .ok (.lconst 0, 1) := by decide +kernel
theorem dX5_rule_3 : decode cX5_rule 3 = .ok (.lconst 1, 1) := by decide +kernel
theorem dX5_rule_4 : decode cX5_rule 4 = .ok (.invokestatic 82, 3) := by decide +kernel
theorem dX5_rule_7 : decode cX5_rule 7 = .ok (.ifCond .eq 25, 3) := by decide +kernel
theorem dX5_rule_10 : decode cX5_rule 10 = .ok (.iload_n 2, 1) := by decide +kernel
theorem dX5_rule_11 : decode cX5_rule 11 = .ok (.i2l, 1) := by decide +kernel
theorem dX5_rule_12 : decode cX5_rule 12 = .ok (.lconst 0, 1) := by decide +kernel
theorem dX5_rule_13 : decode cX5_rule 13 = .ok (.iload_n 1, 1) := by decide +kernel
theorem dX5_rule_14 : decode cX5_rule 14 = .ok (.ifCond .ne 9, 3) := by decide +kernel
theorem dX5_rule_17 : decode cX5_rule 17 = .ok (.ldc2_w 93, 3) := by decide +kernel
theorem dX5_rule_20 : decode cX5_rule 20 = .ok (.goto 6, 3) := by decide +kernel
theorem dX5_rule_23 : decode cX5_rule 23 = .ok (.ldc2_w 95, 3) := by decide +kernel
theorem dX5_rule_26 : decode cX5_rule 26 = .ok (.invokestatic 82, 3) := by decide +kernel
theorem dX5_rule_29 : decode cX5_rule 29 = .ok (.ifCond .ne 7, 3) := by decide +kernel
theorem dX5_rule_32 : decode cX5_rule 32 = .ok (.sipush (-1002), 3) := by decide +kernel
theorem dX5_rule_35 : decode cX5_rule 35 = .ok (.ireturn, 1) := by decide +kernel
theorem dX5_rule_36 : decode cX5_rule 36 = .ok (.iload_n 1, 1) := by decide +kernel
theorem dX5_rule_37 : decode cX5_rule 37 = .ok (.ifCond .ne 10, 3) := by decide +kernel
theorem dX5_rule_40 : decode cX5_rule 40 = .ok (.aload_n 0, 1) := by decide +kernel
theorem dX5_rule_41 : decode cX5_rule 41 = .ok (.getfield 19, 3) := by decide +kernel
theorem dX5_rule_44 : decode cX5_rule 44 = .ok (.goto 7, 3) := by decide +kernel
theorem dX5_rule_47 : decode cX5_rule 47 = .ok (.aload_n 0, 1) := by decide +kernel
theorem dX5_rule_48 : decode cX5_rule 48 = .ok (.getfield 23, 3) := by decide +kernel
theorem dX5_rule_51 : decode cX5_rule 51 = .ok (.istore_n 3, 1) := by decide +kernel
theorem dX5_rule_52 : decode cX5_rule 52 = .ok (.aload_n 0, 1) := by decide +kernel
theorem dX5_rule_53 : decode cX5_rule 53 = .ok (.iload_n 1, 1) := by decide +kernel
theorem dX5_rule_54 : decode cX5_rule 54 = .ok (.ifCond .ne 7, 3) := by decide +kernel
theorem dX5_rule_57 : decode cX5_rule 57 = .ok (.iload_n 2, 1) := by decide +kernel
theorem dX5_rule_58 : decode cX5_rule 58 = .ok (.goto 7, 3) := by decide +kernel
theorem dX5_rule_61 : decode cX5_rule 61 = .ok (.aload_n 0, 1) := by decide +kernel
theorem dX5_rule_62 : decode cX5_rule 62 = .ok (.getfield 19, 3) := by decide +kernel
theorem dX5_rule_65 : decode cX5_rule 65 = .ok (.putfield 19, 3) := by decide +kernel
theorem dX5_rule_68 : decode cX5_rule 68 = .ok (.aload_n 0, 1) := by decide +kernel
theorem dX5_rule_69 : decode cX5_rule 69 = .ok (.iload_n 1, 1) := by decide +kernel
theorem dX5_rule_70 : decode cX5_rule 70 = .ok (.iconst 1, 1) := by decide +kernel
theorem dX5_rule_71 : decode cX5_rule 71 = .ok (.if_icmp .ne 7, 3) := by decide +kernel
theorem dX5_rule_74 : decode cX5_rule 74 = .ok (.iload_n 2, 1) := by decide +kernel
theorem dX5_rule_75 : decode cX5_rule 75 = .ok (.goto 7, 3) := by decide +kernel
theorem dX5_rule_78 : decode cX5_rule 78 = .ok (.aload_n 0, 1) := by decide +kernel
theorem dX5_rule_79 : decode cX5_rule 79 = .ok (.getfield 23, 3) := by decide +kernel
theorem dX5_rule_82 : decode cX5_rule 82 = .ok (.putfield 23, 3) := by decide +kernel
theorem dX5_rule_85 : decode cX5_rule 85 = .ok (.iload_n 3, 1) := by decide +kernel
theorem dX5_rule_86 : decode cX5_rule 86 = .ok (.ireturn, 1) := by decide +kernel
theorem dX5_fresh_0 : decode cX5_fresh 0 = .ok (.aload_n 0, 1) := by decide +kernel
theorem dX5_fresh_1 : decode cX5_fresh 1 = .ok (.getfield 79, 3) := by decide +kernel
theorem dX5_fresh_4 : decode cX5_fresh 4 = .ok (.istore_n 2, 1) := by decide +kernel
theorem dX5_fresh_5 : decode cX5_fresh 5 = .ok (.aload_n 0, 1) := by decide +kernel
theorem dX5_fresh_6 : decode cX5_fresh 6 = .ok (.getfield 26, 3) := by decide +kernel
theorem dX5_fresh_9 : decode cX5_fresh 9 = .ok (.iload_n 2, 1) := by decide +kernel
theorem dX5_fresh_10 : decode cX5_fresh 10 = .ok (.iload_n 1, 1) := by decide +kernel
theorem dX5_fresh_11 : decode cX5_fresh 11 = .ok (.iastore, 1) := by decide +kernel
theorem dX5_fresh_12 : decode cX5_fresh 12 = .ok (.aload_n 0, 1) := by decide +kernel
theorem dX5_fresh_13 : decode cX5_fresh 13 = .ok (.getfield 29, 3) := by decide +kernel
theorem dX5_fresh_16 : decode cX5_fresh 16 = .ok (.iload_n 2, 1) := by decide +kernel
theorem dX5_fresh_17 : decode cX5_fresh 17 = .ok (.iconst (-1), 1) := by decide +kernel
theorem dX5_fresh_18 : decode cX5_fresh 18 = .ok (.iastore, 1) := by decide +kernel
theorem dX5_fresh_19 : decode cX5_fresh 19 = .ok (.aload_n 0, 1) := by decide +kernel
theorem dX5_fresh_20 : decode cX5_fresh 20 = .ok (.getfield 32, 3) := by decide +kernel
theorem dX5_fresh_23 : decode cX5_fresh 23 = .ok (.iload_n 2, 1) := by decide +kernel
theorem dX5_fresh_24 : decode cX5_fresh 24 = .ok (.lconst 0, 1) := by decide +kernel
theorem dX5_fresh_25 : decode cX5_fresh 25 = .ok (.lastore, 1) := by decide +kernel
theorem dX5_fresh_26 : decode cX5_fresh 26 = .ok (.aload_n 0, 1) := by decide +kernel
theorem dX5_fresh_27 : decode cX5_fresh 27 = .ok (.getfield 36, 3) := by decide +kernel
theorem dX5_fresh_30 : decode cX5_fresh 30 = .ok (.iload_n 2, 1) := by decide +kernel
theorem dX5_fresh_31 : decode cX5_fresh 31 = .ok (.iconst (-1), 1) := by decide +kernel
theorem dX5_fresh_32 : decode cX5_fresh 32 = .ok (.iastore, 1) := by decide +kernel
theorem dX5_fresh_33 : decode cX5_fresh 33 = .ok (.aload_n 0, 1) := by decide +kernel
theorem dX5_fresh_34 : decode cX5_fresh 34 = .ok (.getfield 42, 3) := by decide +kernel
theorem dX5_fresh_37 : decode cX5_fresh 37 = .ok (.iload_n 2, 1) := by decide +kernel
theorem dX5_fresh_38 : decode cX5_fresh 38 = .ok (.iconst 0, 1) := by decide +kernel
theorem dX5_fresh_39 : decode cX5_fresh 39 = .ok (.iastore, 1) := by decide +kernel
theorem dX5_fresh_40 : decode cX5_fresh 40 = .ok (.aload_n 0, 1) := by decide +kernel
theorem dX5_fresh_41 : decode cX5_fresh 41 = .ok (.getfield 45, 3) := by decide +kernel
theorem dX5_fresh_44 : decode cX5_fresh 44 = .ok (.iload_n 2, 1) := by decide +kernel
theorem dX5_fresh_45 : decode cX5_fresh 45 = .ok (.aload_n 0, 1) := by decide +kernel
theorem dX5_fresh_46 : decode cX5_fresh 46 = .ok (.getfield 90, 3) := by decide +kernel
theorem dX5_fresh_49 : decode cX5_fresh 49 = .ok (.iastore, 1) := by decide +kernel
theorem dX5_fresh_50 : decode cX5_fresh 50 = .ok (.aload_n 0, 1) := by decide +kernel
theorem dX5_fresh_51 : decode cX5_fresh 51 = .ok (.getfield 48, 3) := by decide +kernel
theorem dX5_fresh_54 : decode cX5_fresh 54 = .ok (.iload_n 2, 1) := by decide +kernel
theorem dX5_fresh_55 : decode cX5_fresh 55 = .ok (.iconst 0, 1) := by decide +kernel
theorem dX5_fresh_56 : decode cX5_fresh 56 = .ok (.iastore, 1) := by decide +kernel
theorem dX5_fresh_57 : decode cX5_fresh 57 = .ok (.iconst 0, 1) := by decide +kernel
theorem dX5_fresh_58 : decode cX5_fresh 58 = .ok (.istore_n 3, 1) := by decide +kernel
theorem dX5_fresh_59 : decode cX5_fresh 59 = .ok (.iload_n 3, 1) := by decide +kernel
theorem dX5_fresh_60 : decode cX5_fresh 60 = .ok (.iconst 4, 1) := by decide +kernel
theorem dX5_fresh_61 : decode cX5_fresh 61 = .ok (.if_icmp .ge 20, 3) := by decide +kernel
theorem dX5_fresh_64 : decode cX5_fresh 64 = .ok (.aload_n 0, 1) := by decide +kernel
theorem dX5_fresh_65 : decode cX5_fresh 65 = .ok (.getfield 51, 3) := by decide +kernel
theorem dX5_fresh_68 : decode cX5_fresh 68 = .ok (.iconst 4, 1) := by decide +kernel
theorem dX5_fresh_69 : decode cX5_fresh 69 = .ok (.iload_n 2, 1) := by decide +kernel
theorem dX5_fresh_70 : decode cX5_fresh 70 = .ok (.imul, 1) := by decide +kernel
theorem dX5_fresh_71 : decode cX5_fresh 71 = .ok (.iload_n 3, 1) := by decide +kernel
theorem dX5_fresh_72 : decode cX5_fresh 72 = .ok (.iadd, 1) := by decide +kernel
theorem dX5_fresh_73 : decode cX5_fresh 73 = .ok (.iconst (-1), 1) := by decide +kernel
theorem dX5_fresh_74 : decode cX5_fresh 74 = .ok (.iastore, 1) := by decide +kernel
theorem dX5_fresh_75 : decode cX5_fresh 75 = .ok (.iinc 3 1, 3) := by decide +kernel
theorem dX5_fresh_78 : decode cX5_fresh 78 = .ok (.goto (-19), 3) := by decide +kernel
theorem dX5_fresh_81 : decode cX5_fresh 81 = .ok (.aload_n 0, 1) := by decide +kernel
theorem dX5_fresh_82 : decode cX5_fresh 82 = .ok (.dup, 1) := by decide +kernel
theorem dX5_fresh_83 : decode cX5_fresh 83 = .ok (.getfield 79, 3) := by decide +kernel
theorem dX5_fresh_86 : decode cX5_fresh 86 = .ok (.iconst 1, 1) := by decide +kernel
theorem dX5_fresh_87 : decode cX5_fresh 87 = .ok (.iadd, 1) := by decide +kernel
theorem dX5_fresh_88 : decode cX5_fresh 88 = .ok (.putfield 79, 3) := by decide +kernel
theorem dX5_fresh_91 : decode cX5_fresh 91 = .ok (.iload_n 2, 1) := by decide +kernel
theorem dX5_fresh_92 : decode cX5_fresh 92 = .ok (.ireturn, 1) := by decide +kernel
theorem dX5_answer_0 : decode cX5_answer 0 = .ok (.lload_n 1, 1) := by decide +kernel
theorem dX5_answer_1 : decode cX5_answer 1 = .ok (.lconst 0, 1) := by decide +kernel
theorem dX5_answer_2 : decode cX5_answer 2 = .ok (.ldc2_w 97, 3) := by decide +kernel
theorem dX5_answer_5 : decode cX5_answer 5 = .ok (.invokestatic 82, 3) := by decide +kernel
theorem dX5_answer_8 : decode cX5_answer 8 = .ok (.ifCond .eq 54, 3) := by decide +kernel
theorem dX5_answer_11 : decode cX5_answer 11 = .ok (.iload_n 3, 1) := by decide +kernel
theorem dX5_answer_12 : decode cX5_answer 12 = .ok (.i2l, 1) := by decide +kernel
theorem dX5_answer_13 : decode cX5_answer 13 = .ok (.lconst 0, 1) := by decide +kernel
theorem dX5_answer_14 : decode cX5_answer 14 = .ok (.ldc2_w 99, 3) := by decide +kernel
theorem dX5_answer_17 : decode cX5_answer 17 = .ok (.invokestatic 82, 3) := by decide +kernel
theorem dX5_answer_20 : decode cX5_answer 20 = .ok (.ifCond .eq 42, 3) := by decide +kernel
theorem dX5_answer_23 : decode cX5_answer 23 = .ok (.iload 4, 2) := by decide +kernel
theorem dX5_answer_25 : decode cX5_answer 25 = .ok (.i2l, 1) := by decide +kernel
theorem dX5_answer_26 : decode cX5_answer 26 = .ok (.lconst 1, 1) := by decide +kernel
theorem dX5_answer_27 : decode cX5_answer 27 = .ok (.ldc2_w 101, 3) := by decide +kernel
theorem dX5_answer_30 : decode cX5_answer 30 = .ok (.invokestatic 82, 3) := by decide +kernel
theorem dX5_answer_33 : decode cX5_answer 33 = .ok (.ifCond .eq 29, 3) := by decide +kernel
theorem dX5_answer_36 : decode cX5_answer 36 = .ok (.iload 5, 2) := by decide +kernel
theorem dX5_answer_38 : decode cX5_answer 38 = .ok (.i2l, 1) := by decide +kernel
theorem dX5_answer_39 : decode cX5_answer 39 = .ok (.lconst 1, 1) := by decide +kernel
theorem dX5_answer_40 : decode cX5_answer 40 = .ok (.ldc2_w 103, 3) := by decide +kernel
theorem dX5_answer_43 : decode cX5_answer 43 = .ok (.invokestatic 82, 3) := by decide +kernel
theorem dX5_answer_46 : decode cX5_answer 46 = .ok (.ifCond .eq 16, 3) := by decide +kernel
theorem dX5_answer_49 : decode cX5_answer 49 = .ok (.iload 6, 2) := by decide +kernel
theorem dX5_answer_51 : decode cX5_answer 51 = .ok (.i2l, 1) := by decide +kernel
theorem dX5_answer_52 : decode cX5_answer 52 = .ok (.lconst 1, 1) := by decide +kernel
theorem dX5_answer_53 : decode cX5_answer 53 = .ok (.ldc2_w 105, 3) := by decide +kernel
theorem dX5_answer_56 : decode cX5_answer 56 = .ok (.invokestatic 82, 3) := by decide +kernel
theorem dX5_answer_59 : decode cX5_answer 59 = .ok (.ifCond .ne 7, 3) := by decide +kernel
theorem dX5_answer_62 : decode cX5_answer 62 = .ok (.sipush (-1002), 3) := by decide +kernel
theorem dX5_answer_65 : decode cX5_answer 65 = .ok (.ireturn, 1) := by decide +kernel
theorem dX5_answer_66 : decode cX5_answer 66 = .ok (.aload_n 0, 1) := by decide +kernel
theorem dX5_answer_67 : decode cX5_answer 67 = .ok (.getfield 79, 3) := by decide +kernel
theorem dX5_answer_70 : decode cX5_answer 70 = .ok (.bipush 24, 2) := by decide +kernel
theorem dX5_answer_72 : decode cX5_answer 72 = .ok (.if_icmp .ne 7, 3) := by decide +kernel
theorem dX5_answer_75 : decode cX5_answer 75 = .ok (.sipush (-1004), 3) := by decide +kernel
theorem dX5_answer_78 : decode cX5_answer 78 = .ok (.ireturn, 1) := by decide +kernel
theorem dX5_answer_79 : decode cX5_answer 79 = .ok (.aload_n 0, 1) := by decide +kernel
theorem dX5_answer_80 : decode cX5_answer 80 = .ok (.iconst 0, 1) := by decide +kernel
theorem dX5_answer_81 : decode cX5_answer 81 = .ok (.invokevirtual 107, 3) := by decide +kernel
theorem dX5_answer_84 : decode cX5_answer 84 = .ok (.istore 7, 2) := by decide +kernel
theorem dX5_answer_86 : decode cX5_answer 86 = .ok (.aload_n 0, 1) := by decide +kernel
theorem dX5_answer_87 : decode cX5_answer 87 = .ok (.getfield 32, 3) := by decide +kernel
theorem dX5_answer_90 : decode cX5_answer 90 = .ok (.iload 7, 2) := by decide +kernel
theorem dX5_answer_92 : decode cX5_answer 92 = .ok (.lload_n 1, 1) := by decide +kernel
theorem dX5_answer_93 : decode cX5_answer 93 = .ok (.lastore, 1) := by decide +kernel
theorem dX5_answer_94 : decode cX5_answer 94 = .ok (.aload_n 0, 1) := by decide +kernel
theorem dX5_answer_95 : decode cX5_answer 95 = .ok (.getfield 36, 3) := by decide +kernel
theorem dX5_answer_98 : decode cX5_answer 98 = .ok (.iload 7, 2) := by decide +kernel
theorem dX5_answer_100 : decode cX5_answer 100 = .ok (.iload_n 3, 1) := by decide +kernel
theorem dX5_answer_101 : decode cX5_answer 101 = .ok (.iastore, 1) := by decide +kernel
theorem dX5_answer_102 : decode cX5_answer 102 = .ok (.aload_n 0, 1) := by decide +kernel
theorem dX5_answer_103 : decode cX5_answer 103 = .ok (.getfield 39, 3) := by decide +kernel
theorem dX5_answer_106 : decode cX5_answer 106 = .ok (.iconst 3, 1) := by decide +kernel
theorem dX5_answer_107 : decode cX5_answer 107 = .ok (.iload 7, 2) := by decide +kernel
theorem dX5_answer_109 : decode cX5_answer 109 = .ok (.imul, 1) := by decide +kernel
theorem dX5_answer_110 : decode cX5_answer 110 = .ok (.iload 4, 2) := by decide +kernel
theorem dX5_answer_112 : decode cX5_answer 112 = .ok (.iastore, 1) := by decide +kernel
theorem dX5_answer_113 : decode cX5_answer 113 = .ok (.aload_n 0, 1) := by decide +kernel
theorem dX5_answer_114 : decode cX5_answer 114 = .ok (.getfield 39, 3) := by decide +kernel
theorem dX5_answer_117 : decode cX5_answer 117 = .ok (.iconst 3, 1) := by decide +kernel
theorem dX5_answer_118 : decode cX5_answer 118 = .ok (.iload 7, 2) := by decide +kernel
theorem dX5_answer_120 : decode cX5_answer 120 = .ok (.imul, 1) := by decide +kernel
theorem dX5_answer_121 : decode cX5_answer 121 = .ok (.iconst 1, 1) := by decide +kernel
theorem dX5_answer_122 : decode cX5_answer 122 = .ok (.iadd, 1) := by decide +kernel
theorem dX5_answer_123 : decode cX5_answer 123 = .ok (.iload 5, 2) := by decide +kernel
theorem dX5_answer_125 : decode cX5_answer 125 = .ok (.iastore, 1) := by decide +kernel
theorem dX5_answer_126 : decode cX5_answer 126 = .ok (.aload_n 0, 1) := by decide +kernel
theorem dX5_answer_127 : decode cX5_answer 127 = .ok (.getfield 39, 3) := by decide +kernel
theorem dX5_answer_130 : decode cX5_answer 130 = .ok (.iconst 3, 1) := by decide +kernel
theorem dX5_answer_131 : decode cX5_answer 131 = .ok (.iload 7, 2) := by decide +kernel
theorem dX5_answer_133 : decode cX5_answer 133 = .ok (.imul, 1) := by decide +kernel
theorem dX5_answer_134 : decode cX5_answer 134 = .ok (.iconst 2, 1) := by decide +kernel
theorem dX5_answer_135 : decode cX5_answer 135 = .ok (.iadd, 1) := by decide +kernel
theorem dX5_answer_136 : decode cX5_answer 136 = .ok (.iload 6, 2) := by decide +kernel
theorem dX5_answer_138 : decode cX5_answer 138 = .ok (.iastore, 1) := by decide +kernel
theorem dX5_answer_139 : decode cX5_answer 139 = .ok (.iload 7, 2) := by decide +kernel
theorem dX5_answer_141 : decode cX5_answer 141 = .ok (.ireturn, 1) := by decide +kernel
theorem dX5_join_0 : decode cX5_join 0 = .ok (.aload_n 0, 1) := by decide +kernel
theorem dX5_join_1 : decode cX5_join 1 = .ok (.iload_n 1, 1) := by decide +kernel
theorem dX5_join_2 : decode cX5_join 2 = .ok (.invokevirtual 111, 3) := by decide +kernel
theorem dX5_join_5 : decode cX5_join 5 = .ok (.ifCond .eq 39, 3) := by decide +kernel
theorem dX5_join_8 : decode cX5_join 8 = .ok (.aload_n 0, 1) := by decide +kernel
theorem dX5_join_9 : decode cX5_join 9 = .ok (.iload_n 2, 1) := by decide +kernel
theorem dX5_join_10 : decode cX5_join 10 = .ok (.invokevirtual 111, 3) := by decide +kernel
theorem dX5_join_13 : decode cX5_join 13 = .ok (.ifCond .eq 31, 3) := by decide +kernel
theorem dX5_join_16 : decode cX5_join 16 = .ok (.iload_n 3, 1) := by decide +kernel
theorem dX5_join_17 : decode cX5_join 17 = .ok (.iconst (-1), 1) := by decide +kernel
theorem dX5_join_18 : decode cX5_join 18 = .ok (.if_icmp .eq 11, 3) := by decide +kernel
theorem dX5_join_21 : decode cX5_join 21 = .ok (.aload_n 0, 1) := by decide +kernel
theorem dX5_join_22 : decode cX5_join 22 = .ok (.iload_n 3, 1) := by decide +kernel
theorem dX5_join_23 : decode cX5_join 23 = .ok (.invokevirtual 111, 3) := by decide +kernel
theorem dX5_join_26 : decode cX5_join 26 = .ok (.ifCond .eq 18, 3) := by decide +kernel
theorem dX5_join_29 : decode cX5_join 29 = .ok (.iload 4, 2) := by decide +kernel
theorem dX5_join_31 : decode cX5_join 31 = .ok (.iconst (-1), 1) := by decide +kernel
theorem dX5_join_32 : decode cX5_join 32 = .ok (.if_icmp .eq 16, 3) := by decide +kernel
theorem dX5_join_35 : decode cX5_join 35 = .ok (.aload_n 0, 1) := by decide +kernel
theorem dX5_join_36 : decode cX5_join 36 = .ok (.iload 4, 2) := by decide +kernel
theorem dX5_join_38 : decode cX5_join 38 = .ok (.invokevirtual 111, 3) := by decide +kernel
theorem dX5_join_41 : decode cX5_join 41 = .ok (.ifCond .ne 7, 3) := by decide +kernel
theorem dX5_join_44 : decode cX5_join 44 = .ok (.sipush (-1001), 3) := by decide +kernel
theorem dX5_join_47 : decode cX5_join 47 = .ok (.ireturn, 1) := by decide +kernel
theorem dX5_join_48 : decode cX5_join 48 = .ok (.aload_n 0, 1) := by decide +kernel
theorem dX5_join_49 : decode cX5_join 49 = .ok (.iload_n 1, 1) := by decide +kernel
theorem dX5_join_50 : decode cX5_join 50 = .ok (.invokevirtual 115, 3) := by decide +kernel
theorem dX5_join_53 : decode cX5_join 53 = .ok (.ifCond .eq 41, 3) := by decide +kernel
theorem dX5_join_56 : decode cX5_join 56 = .ok (.aload_n 0, 1) := by decide +kernel
theorem dX5_join_57 : decode cX5_join 57 = .ok (.iload_n 2, 1) := by decide +kernel
theorem dX5_join_58 : decode cX5_join 58 = .ok (.invokevirtual 115, 3) := by decide +kernel
theorem dX5_join_61 : decode cX5_join 61 = .ok (.ifCond .eq 33, 3) := by decide +kernel
theorem dX5_join_64 : decode cX5_join 64 = .ok (.iload_n 3, 1) := by decide +kernel
theorem dX5_join_65 : decode cX5_join 65 = .ok (.ifCond .lt 11, 3) := by decide +kernel
theorem dX5_join_68 : decode cX5_join 68 = .ok (.aload_n 0, 1) := by decide +kernel
theorem dX5_join_69 : decode cX5_join 69 = .ok (.iload_n 3, 1) := by decide +kernel
theorem dX5_join_70 : decode cX5_join 70 = .ok (.invokevirtual 115, 3) := by decide +kernel
theorem dX5_join_73 : decode cX5_join 73 = .ok (.ifCond .eq 21, 3) := by decide +kernel
theorem dX5_join_76 : decode cX5_join 76 = .ok (.iload 4, 2) := by decide +kernel
theorem dX5_join_78 : decode cX5_join 78 = .ok (.ifCond .lt 12, 3) := by decide +kernel
theorem dX5_join_81 : decode cX5_join 81 = .ok (.aload_n 0, 1) := by decide +kernel
theorem dX5_join_82 : decode cX5_join 82 = .ok (.iload 4, 2) := by decide +kernel
theorem dX5_join_84 : decode cX5_join 84 = .ok (.invokevirtual 115, 3) := by decide +kernel
theorem dX5_join_87 : decode cX5_join 87 = .ok (.ifCond .eq 7, 3) := by decide +kernel
theorem dX5_join_90 : decode cX5_join 90 = .ok (.iconst 1, 1) := by decide +kernel
theorem dX5_join_91 : decode cX5_join 91 = .ok (.goto 4, 3) := by decide +kernel
theorem dX5_join_94 : decode cX5_join 94 = .ok (.iconst 0, 1) := by decide +kernel
theorem dX5_join_95 : decode cX5_join 95 = .ok (.istore 5, 2) := by decide +kernel
theorem dX5_join_97 : decode cX5_join 97 = .ok (.iload_n 1, 1) := by decide +kernel
theorem dX5_join_98 : decode cX5_join 98 = .ok (.iload_n 2, 1) := by decide +kernel
theorem dX5_join_99 : decode cX5_join 99 = .ok (.if_icmp .eq 39, 3) := by decide +kernel
theorem dX5_join_102 : decode cX5_join 102 = .ok (.iload_n 1, 1) := by decide +kernel
theorem dX5_join_103 : decode cX5_join 103 = .ok (.iload_n 3, 1) := by decide +kernel
theorem dX5_join_104 : decode cX5_join 104 = .ok (.if_icmp .eq 34, 3) := by decide +kernel
theorem dX5_join_107 : decode cX5_join 107 = .ok (.iload_n 2, 1) := by decide +kernel
theorem dX5_join_108 : decode cX5_join 108 = .ok (.iload_n 3, 1) := by decide +kernel
theorem dX5_join_109 : decode cX5_join 109 = .ok (.if_icmp .eq 29, 3) := by decide +kernel
theorem dX5_join_112 : decode cX5_join 112 = .ok (.iload_n 1, 1) := by decide +kernel
theorem dX5_join_113 : decode cX5_join 113 = .ok (.iload 4, 2) := by decide +kernel
theorem dX5_join_115 : decode cX5_join 115 = .ok (.if_icmp .eq 23, 3) := by decide +kernel
theorem dX5_join_118 : decode cX5_join 118 = .ok (.iload_n 2, 1) := by decide +kernel
theorem dX5_join_119 : decode cX5_join 119 = .ok (.iload 4, 2) := by decide +kernel
theorem dX5_join_121 : decode cX5_join 121 = .ok (.if_icmp .eq 17, 3) := by decide +kernel
theorem dX5_join_124 : decode cX5_join 124 = .ok (.iload_n 3, 1) := by decide +kernel
theorem dX5_join_125 : decode cX5_join 125 = .ok (.iload 4, 2) := by decide +kernel
theorem dX5_join_127 : decode cX5_join 127 = .ok (.if_icmp .ne 7, 3) := by decide +kernel
theorem dX5_join_130 : decode cX5_join 130 = .ok (.iload_n 3, 1) := by decide +kernel
theorem dX5_join_131 : decode cX5_join 131 = .ok (.ifCond .ge 7, 3) := by decide +kernel
theorem dX5_join_134 : decode cX5_join 134 = .ok (.iconst 1, 1) := by decide +kernel
theorem dX5_join_135 : decode cX5_join 135 = .ok (.goto 4, 3) := by decide +kernel
theorem dX5_join_138 : decode cX5_join 138 = .ok (.iconst 0, 1) := by decide +kernel
theorem dX5_join_139 : decode cX5_join 139 = .ok (.istore 6, 2) := by decide +kernel
theorem dX5_join_141 : decode cX5_join 141 = .ok (.iload 5, 2) := by decide +kernel
theorem dX5_join_143 : decode cX5_join 143 = .ok (.ifCond .eq 17, 3) := by decide +kernel
theorem dX5_join_146 : decode cX5_join 146 = .ok (.iload 6, 2) := by decide +kernel
theorem dX5_join_148 : decode cX5_join 148 = .ok (.ifCond .eq 12, 3) := by decide +kernel
theorem dX5_join_151 : decode cX5_join 151 = .ok (.iload_n 3, 1) := by decide +kernel
theorem dX5_join_152 : decode cX5_join 152 = .ok (.ifCond .ge 12, 3) := by decide +kernel
theorem dX5_join_155 : decode cX5_join 155 = .ok (.iload 4, 2) := by decide +kernel
theorem dX5_join_157 : decode cX5_join 157 = .ok (.ifCond .lt 7, 3) := by decide +kernel
theorem dX5_join_160 : decode cX5_join 160 = .ok (.sipush (-1003), 3) := by decide +kernel
theorem dX5_join_163 : decode cX5_join 163 = .ok (.ireturn, 1) := by decide +kernel
theorem dX5_join_164 : decode cX5_join 164 = .ok (.aload_n 0, 1) := by decide +kernel
theorem dX5_join_165 : decode cX5_join 165 = .ok (.getfield 79, 3) := by decide +kernel
theorem dX5_join_168 : decode cX5_join 168 = .ok (.bipush 24, 2) := by decide +kernel
theorem dX5_join_170 : decode cX5_join 170 = .ok (.if_icmp .ne 7, 3) := by decide +kernel
theorem dX5_join_173 : decode cX5_join 173 = .ok (.sipush (-1004), 3) := by decide +kernel
theorem dX5_join_176 : decode cX5_join 176 = .ok (.ireturn, 1) := by decide +kernel
theorem dX5_join_177 : decode cX5_join 177 = .ok (.aload_n 0, 1) := by decide +kernel
theorem dX5_join_178 : decode cX5_join 178 = .ok (.iconst 1, 1) := by decide +kernel
theorem dX5_join_179 : decode cX5_join 179 = .ok (.invokevirtual 107, 3) := by decide +kernel
theorem dX5_join_182 : decode cX5_join 182 = .ok (.istore 7, 2) := by decide +kernel
theorem dX5_join_184 : decode cX5_join 184 = .ok (.aload_n 0, 1) := by decide +kernel
theorem dX5_join_185 : decode cX5_join 185 = .ok (.getfield 51, 3) := by decide +kernel
theorem dX5_join_188 : decode cX5_join 188 = .ok (.iconst 4, 1) := by decide +kernel
theorem dX5_join_189 : decode cX5_join 189 = .ok (.iload 7, 2) := by decide +kernel
theorem dX5_join_191 : decode cX5_join 191 = .ok (.imul, 1) := by decide +kernel
theorem dX5_join_192 : decode cX5_join 192 = .ok (.iload_n 1, 1) := by decide +kernel
theorem dX5_join_193 : decode cX5_join 193 = .ok (.iastore, 1) := by decide +kernel
theorem dX5_join_194 : decode cX5_join 194 = .ok (.aload_n 0, 1) := by decide +kernel
theorem dX5_join_195 : decode cX5_join 195 = .ok (.getfield 51, 3) := by decide +kernel
theorem dX5_join_198 : decode cX5_join 198 = .ok (.iconst 4, 1) := by decide +kernel
theorem dX5_join_199 : decode cX5_join 199 = .ok (.iload 7, 2) := by decide +kernel
theorem dX5_join_201 : decode cX5_join 201 = .ok (.imul, 1) := by decide +kernel
theorem dX5_join_202 : decode cX5_join 202 = .ok (.iconst 1, 1) := by decide +kernel
theorem dX5_join_203 : decode cX5_join 203 = .ok (.iadd, 1) := by decide +kernel
theorem dX5_join_204 : decode cX5_join 204 = .ok (.iload_n 2, 1) := by decide +kernel
theorem dX5_join_205 : decode cX5_join 205 = .ok (.iastore, 1) := by decide +kernel
theorem dX5_join_206 : decode cX5_join 206 = .ok (.aload_n 0, 1) := by decide +kernel
theorem dX5_join_207 : decode cX5_join 207 = .ok (.getfield 51, 3) := by decide +kernel
theorem dX5_join_210 : decode cX5_join 210 = .ok (.iconst 4, 1) := by decide +kernel
theorem dX5_join_211 : decode cX5_join 211 = .ok (.iload 7, 2) := by decide +kernel
theorem dX5_join_213 : decode cX5_join 213 = .ok (.imul, 1) := by decide +kernel
theorem dX5_join_214 : decode cX5_join 214 = .ok (.iconst 2, 1) := by decide +kernel
theorem dX5_join_215 : decode cX5_join 215 = .ok (.iadd, 1) := by decide +kernel
theorem dX5_join_216 : decode cX5_join 216 = .ok (.iload_n 3, 1) := by decide +kernel
theorem dX5_join_217 : decode cX5_join 217 = .ok (.iastore, 1) := by decide +kernel
theorem dX5_join_218 : decode cX5_join 218 = .ok (.aload_n 0, 1) := by decide +kernel
theorem dX5_join_219 : decode cX5_join 219 = .ok (.getfield 51, 3) := by decide +kernel
theorem dX5_join_222 : decode cX5_join 222 = .ok (.iconst 4, 1) := by decide +kernel
theorem dX5_join_223 : decode cX5_join 223 = .ok (.iload 7, 2) := by decide +kernel
theorem dX5_join_225 : decode cX5_join 225 = .ok (.imul, 1) := by decide +kernel
theorem dX5_join_226 : decode cX5_join 226 = .ok (.iconst 3, 1) := by decide +kernel
theorem dX5_join_227 : decode cX5_join 227 = .ok (.iadd, 1) := by decide +kernel
theorem dX5_join_228 : decode cX5_join 228 = .ok (.iload 4, 2) := by decide +kernel
theorem dX5_join_230 : decode cX5_join 230 = .ok (.iastore, 1) := by decide +kernel
theorem dX5_join_231 : decode cX5_join 231 = .ok (.iload 7, 2) := by decide +kernel
theorem dX5_join_233 : decode cX5_join 233 = .ok (.ireturn, 1) := by decide +kernel
theorem dX5_bind_0 : decode cX5_bind 0 = .ok (.aload_n 0, 1) := by decide +kernel
theorem dX5_bind_1 : decode cX5_bind 1 = .ok (.iload_n 1, 1) := by decide +kernel
theorem dX5_bind_2 : decode cX5_bind 2 = .ok (.invokevirtual 111, 3) := by decide +kernel
theorem dX5_bind_5 : decode cX5_bind 5 = .ok (.ifCond .ne 7, 3) := by decide +kernel
theorem dX5_bind_8 : decode cX5_bind 8 = .ok (.sipush (-1001), 3) := by decide +kernel
theorem dX5_bind_11 : decode cX5_bind 11 = .ok (.ireturn, 1) := by decide +kernel
theorem dX5_bind_12 : decode cX5_bind 12 = .ok (.iload_n 2, 1) := by decide +kernel
theorem dX5_bind_13 : decode cX5_bind 13 = .ok (.i2l, 1) := by decide +kernel
theorem dX5_bind_14 : decode cX5_bind 14 = .ok (.lconst 0, 1) := by decide +kernel
theorem dX5_bind_15 : decode cX5_bind 15 = .ok (.ldc2_w 103, 3) := by decide +kernel
theorem dX5_bind_18 : decode cX5_bind 18 = .ok (.invokestatic 82, 3) := by decide +kernel
theorem dX5_bind_21 : decode cX5_bind 21 = .ok (.ifCond .ne 7, 3) := by decide +kernel
theorem dX5_bind_24 : decode cX5_bind 24 = .ok (.sipush (-1002), 3) := by decide +kernel
theorem dX5_bind_27 : decode cX5_bind 27 = .ok (.ireturn, 1) := by decide +kernel
theorem dX5_bind_28 : decode cX5_bind 28 = .ok (.aload_n 0, 1) := by decide +kernel
theorem dX5_bind_29 : decode cX5_bind 29 = .ok (.iload_n 1, 1) := by decide +kernel
theorem dX5_bind_30 : decode cX5_bind 30 = .ok (.invokevirtual 115, 3) := by decide +kernel
theorem dX5_bind_33 : decode cX5_bind 33 = .ok (.ifCond .ne 7, 3) := by decide +kernel
theorem dX5_bind_36 : decode cX5_bind 36 = .ok (.sipush (-1003), 3) := by decide +kernel
theorem dX5_bind_39 : decode cX5_bind 39 = .ok (.ireturn, 1) := by decide +kernel
theorem dX5_bind_40 : decode cX5_bind 40 = .ok (.aload_n 0, 1) := by decide +kernel
theorem dX5_bind_41 : decode cX5_bind 41 = .ok (.getfield 42, 3) := by decide +kernel
theorem dX5_bind_44 : decode cX5_bind 44 = .ok (.iload_n 1, 1) := by decide +kernel
theorem dX5_bind_45 : decode cX5_bind 45 = .ok (.iaload, 1) := by decide +kernel
theorem dX5_bind_46 : decode cX5_bind 46 = .ok (.istore_n 3, 1) := by decide +kernel
theorem dX5_bind_47 : decode cX5_bind 47 = .ok (.aload_n 0, 1) := by decide +kernel
theorem dX5_bind_48 : decode cX5_bind 48 = .ok (.getfield 42, 3) := by decide +kernel
theorem dX5_bind_51 : decode cX5_bind 51 = .ok (.iload_n 1, 1) := by decide +kernel
theorem dX5_bind_52 : decode cX5_bind 52 = .ok (.iload_n 2, 1) := by decide +kernel
theorem dX5_bind_53 : decode cX5_bind 53 = .ok (.iastore, 1) := by decide +kernel
theorem dX5_bind_54 : decode cX5_bind 54 = .ok (.iload_n 3, 1) := by decide +kernel
theorem dX5_bind_55 : decode cX5_bind 55 = .ok (.ireturn, 1) := by decide +kernel
theorem dX5_confirm_0 : decode cX5_confirm 0 = .ok (.aload_n 0, 1) := by decide +kernel
theorem dX5_confirm_1 : decode cX5_confirm 1 = .ok (.iload_n 1, 1) := by decide +kernel
theorem dX5_confirm_2 : decode cX5_confirm 2 = .ok (.invokevirtual 111, 3) := by decide +kernel
theorem dX5_confirm_5 : decode cX5_confirm 5 = .ok (.ifCond .ne 7, 3) := by decide +kernel
theorem dX5_confirm_8 : decode cX5_confirm 8 = .ok (.sipush (-1001), 3) := by decide +kernel
theorem dX5_confirm_11 : decode cX5_confirm 11 = .ok (.ireturn, 1) := by decide +kernel
theorem dX5_confirm_12 : decode cX5_confirm 12 = .ok (.aload_n 0, 1) := by decide +kernel
theorem dX5_confirm_13 : decode cX5_confirm 13 = .ok (.iload_n 1, 1) := by decide +kernel
theorem dX5_confirm_14 : decode cX5_confirm 14 = .ok (.invokevirtual 115, 3) := by decide +kernel
theorem dX5_confirm_17 : decode cX5_confirm 17 = .ok (.ifCond .ne 7, 3) := by decide +kernel
theorem dX5_confirm_20 : decode cX5_confirm 20 = .ok (.sipush (-1003), 3) := by decide +kernel
theorem dX5_confirm_23 : decode cX5_confirm 23 = .ok (.ireturn, 1) := by decide +kernel
theorem dX5_confirm_24 : decode cX5_confirm 24 = .ok (.aload_n 0, 1) := by decide +kernel
theorem dX5_confirm_25 : decode cX5_confirm 25 = .ok (.invokevirtual 118, 3) := by decide +kernel
theorem dX5_confirm_28 : decode cX5_confirm 28 = .ok (.aload_n 0, 1) := by decide +kernel
theorem dX5_confirm_29 : decode cX5_confirm 29 = .ok (.getfield 45, 3) := by decide +kernel
theorem dX5_confirm_32 : decode cX5_confirm 32 = .ok (.iload_n 1, 1) := by decide +kernel
theorem dX5_confirm_33 : decode cX5_confirm 33 = .ok (.aload_n 0, 1) := by decide +kernel
theorem dX5_confirm_34 : decode cX5_confirm 34 = .ok (.getfield 90, 3) := by decide +kernel
theorem dX5_confirm_37 : decode cX5_confirm 37 = .ok (.iastore, 1) := by decide +kernel
theorem dX5_confirm_38 : decode cX5_confirm 38 = .ok (.aload_n 0, 1) := by decide +kernel
theorem dX5_confirm_39 : decode cX5_confirm 39 = .ok (.getfield 73, 3) := by decide +kernel
theorem dX5_confirm_42 : decode cX5_confirm 42 = .ok (.iload_n 1, 1) := by decide +kernel
theorem dX5_confirm_43 : decode cX5_confirm 43 = .ok (.baload, 1) := by decide +kernel
theorem dX5_confirm_44 : decode cX5_confirm 44 = .ok (.ifCond .eq 7, 3) := by decide +kernel
theorem dX5_confirm_47 : decode cX5_confirm 47 = .ok (.iconst 1, 1) := by decide +kernel
theorem dX5_confirm_48 : decode cX5_confirm 48 = .ok (.goto 4, 3) := by decide +kernel
theorem dX5_confirm_51 : decode cX5_confirm 51 = .ok (.iconst 0, 1) := by decide +kernel
theorem dX5_confirm_52 : decode cX5_confirm 52 = .ok (.ireturn, 1) := by decide +kernel
theorem dX5_workPlain_0 : decode cX5_workPlain 0 = .ok (.aload_n 0, 1) := by decide +kernel
theorem dX5_workPlain_1 : decode cX5_workPlain 1 = .ok (.getfield 60, 3) := by decide +kernel
theorem dX5_workPlain_4 : decode cX5_workPlain 4 = .ok (.iload_n 1, 1) := by decide +kernel
theorem dX5_workPlain_5 : decode cX5_workPlain 5 = .ok (.iconst 1, 1) := by decide +kernel
theorem dX5_workPlain_6 : decode cX5_workPlain 6 = .ok (.bastore, 1) := by decide +kernel
theorem dX5_workPlain_7 : decode cX5_workPlain 7 = .ok (.aload_n 0, 1) := by decide +kernel
theorem dX5_workPlain_8 : decode cX5_workPlain 8 = .ok (.getfield 64, 3) := by decide +kernel
theorem dX5_workPlain_11 : decode cX5_workPlain 11 = .ok (.iload_n 1, 1) := by decide +kernel
theorem dX5_workPlain_12 : decode cX5_workPlain 12 = .ok (.aload_n 0, 1) := by decide +kernel
theorem dX5_workPlain_13 : decode cX5_workPlain 13 = .ok (.getfield 32, 3) := by decide +kernel
theorem dX5_workPlain_16 : decode cX5_workPlain 16 = .ok (.iload_n 1, 1) := by decide +kernel
theorem dX5_workPlain_17 : decode cX5_workPlain 17 = .ok (.laload, 1) := by decide +kernel
theorem dX5_workPlain_18 : decode cX5_workPlain 18 = .ok (.lastore, 1) := by decide +kernel
theorem dX5_workPlain_19 : decode cX5_workPlain 19 = .ok (.aload_n 0, 1) := by decide +kernel
theorem dX5_workPlain_20 : decode cX5_workPlain 20 = .ok (.getfield 70, 3) := by decide +kernel
theorem dX5_workPlain_23 : decode cX5_workPlain 23 = .ok (.iload_n 1, 1) := by decide +kernel
theorem dX5_workPlain_24 : decode cX5_workPlain 24 = .ok (.aload_n 0, 1) := by decide +kernel
theorem dX5_workPlain_25 : decode cX5_workPlain 25 = .ok (.getfield 42, 3) := by decide +kernel
theorem dX5_workPlain_28 : decode cX5_workPlain 28 = .ok (.iload_n 1, 1) := by decide +kernel
theorem dX5_workPlain_29 : decode cX5_workPlain 29 = .ok (.iaload, 1) := by decide +kernel
theorem dX5_workPlain_30 : decode cX5_workPlain 30 = .ok (.iastore, 1) := by decide +kernel
theorem dX5_workPlain_31 : decode cX5_workPlain 31 = .ok (.aload_n 0, 1) := by decide +kernel
theorem dX5_workPlain_32 : decode cX5_workPlain 32 = .ok (.getfield 73, 3) := by decide +kernel
theorem dX5_workPlain_35 : decode cX5_workPlain 35 = .ok (.iload_n 1, 1) := by decide +kernel
theorem dX5_workPlain_36 : decode cX5_workPlain 36 = .ok (.iconst 0, 1) := by decide +kernel
theorem dX5_workPlain_37 : decode cX5_workPlain 37 = .ok (.bastore, 1) := by decide +kernel
theorem dX5_workPlain_38 : decode cX5_workPlain 38 = .ok (.iconst 0, 1) := by decide +kernel
theorem dX5_workPlain_39 : decode cX5_workPlain 39 = .ok (.istore_n 2, 1) := by decide +kernel
theorem dX5_workPlain_40 : decode cX5_workPlain 40 = .ok (.iload_n 2, 1) := by decide +kernel
theorem dX5_workPlain_41 : decode cX5_workPlain 41 = .ok (.iconst 3, 1) := by decide +kernel
theorem dX5_workPlain_42 : decode cX5_workPlain 42 = .ok (.if_icmp .ge 29, 3) := by decide +kernel
theorem dX5_workPlain_45 : decode cX5_workPlain 45 = .ok (.aload_n 0, 1) := by decide +kernel
theorem dX5_workPlain_46 : decode cX5_workPlain 46 = .ok (.getfield 67, 3) := by decide +kernel
theorem dX5_workPlain_49 : decode cX5_workPlain 49 = .ok (.iconst 3, 1) := by decide +kernel
theorem dX5_workPlain_50 : decode cX5_workPlain 50 = .ok (.iload_n 1, 1) := by decide +kernel
theorem dX5_workPlain_51 : decode cX5_workPlain 51 = .ok (.imul, 1) := by decide +kernel
theorem dX5_workPlain_52 : decode cX5_workPlain 52 = .ok (.iload_n 2, 1) := by decide +kernel
theorem dX5_workPlain_53 : decode cX5_workPlain 53 = .ok (.iadd, 1) := by decide +kernel
theorem dX5_workPlain_54 : decode cX5_workPlain 54 = .ok (.aload_n 0, 1) := by decide +kernel
theorem dX5_workPlain_55 : decode cX5_workPlain 55 = .ok (.getfield 39, 3) := by decide +kernel
theorem dX5_workPlain_58 : decode cX5_workPlain 58 = .ok (.iconst 3, 1) := by decide +kernel
theorem dX5_workPlain_59 : decode cX5_workPlain 59 = .ok (.iload_n 1, 1) := by decide +kernel
theorem dX5_workPlain_60 : decode cX5_workPlain 60 = .ok (.imul, 1) := by decide +kernel
theorem dX5_workPlain_61 : decode cX5_workPlain 61 = .ok (.iload_n 2, 1) := by decide +kernel
theorem dX5_workPlain_62 : decode cX5_workPlain 62 = .ok (.iadd, 1) := by decide +kernel
theorem dX5_workPlain_63 : decode cX5_workPlain 63 = .ok (.iaload, 1) := by decide +kernel
theorem dX5_workPlain_64 : decode cX5_workPlain 64 = .ok (.iastore, 1) := by decide +kernel
theorem dX5_workPlain_65 : decode cX5_workPlain 65 = .ok (.iinc 2 1, 3) := by decide +kernel
theorem dX5_workPlain_68 : decode cX5_workPlain 68 = .ok (.goto (-28), 3) := by decide +kernel
theorem dX5_workPlain_71 : decode cX5_workPlain 71 = .ok (.iconst 0, 1) := by decide +kernel
theorem dX5_workPlain_72 : decode cX5_workPlain 72 = .ok (.istore_n 2, 1) := by decide +kernel
theorem dX5_workPlain_73 : decode cX5_workPlain 73 = .ok (.iload_n 2, 1) := by decide +kernel
theorem dX5_workPlain_74 : decode cX5_workPlain 74 = .ok (.bipush 10, 2) := by decide +kernel
theorem dX5_workPlain_76 : decode cX5_workPlain 76 = .ok (.if_icmp .ge 58, 3) := by decide +kernel
theorem dX5_workPlain_79 : decode cX5_workPlain 79 = .ok (.aload_n 0, 1) := by decide +kernel
theorem dX5_workPlain_80 : decode cX5_workPlain 80 = .ok (.getfield 73, 3) := by decide +kernel
theorem dX5_workPlain_83 : decode cX5_workPlain 83 = .ok (.iload_n 1, 1) := by decide +kernel
theorem dX5_workPlain_84 : decode cX5_workPlain 84 = .ok (.aload_n 0, 1) := by decide +kernel
theorem dX5_workPlain_85 : decode cX5_workPlain 85 = .ok (.getfield 73, 3) := by decide +kernel
theorem dX5_workPlain_88 : decode cX5_workPlain 88 = .ok (.iload_n 1, 1) := by decide +kernel
theorem dX5_workPlain_89 : decode cX5_workPlain 89 = .ok (.baload, 1) := by decide +kernel
theorem dX5_workPlain_90 : decode cX5_workPlain 90 = .ok (.ifCond .ne 32, 3) := by decide +kernel
theorem dX5_workPlain_93 : decode cX5_workPlain 93 = .ok (.aload_n 0, 1) := by decide +kernel
theorem dX5_workPlain_94 : decode cX5_workPlain 94 = .ok (.getfield 42, 3) := by decide +kernel
theorem dX5_workPlain_97 : decode cX5_workPlain 97 = .ok (.iload_n 1, 1) := by decide +kernel
theorem dX5_workPlain_98 : decode cX5_workPlain 98 = .ok (.iaload, 1) := by decide +kernel
theorem dX5_workPlain_99 : decode cX5_workPlain 99 = .ok (.iload_n 2, 1) := by decide +kernel
theorem dX5_workPlain_100 : decode cX5_workPlain 100 = .ok (.ishr, 1) := by decide +kernel
theorem dX5_workPlain_101 : decode cX5_workPlain 101 = .ok (.iconst 1, 1) := by decide +kernel
theorem dX5_workPlain_102 : decode cX5_workPlain 102 = .ok (.iand, 1) := by decide +kernel
theorem dX5_workPlain_103 : decode cX5_workPlain 103 = .ok (.iconst 1, 1) := by decide +kernel
theorem dX5_workPlain_104 : decode cX5_workPlain 104 = .ok (.if_icmp .ne 22, 3) := by decide +kernel
theorem dX5_workPlain_107 : decode cX5_workPlain 107 = .ok (.aload_n 0, 1) := by decide +kernel
theorem dX5_workPlain_108 : decode cX5_workPlain 108 = .ok (.getfield 16, 3) := by decide +kernel
theorem dX5_workPlain_111 : decode cX5_workPlain 111 = .ok (.iload_n 2, 1) := by decide +kernel
theorem dX5_workPlain_112 : decode cX5_workPlain 112 = .ok (.iaload, 1) := by decide +kernel
theorem dX5_workPlain_113 : decode cX5_workPlain 113 = .ok (.aload_n 0, 1) := by decide +kernel
theorem dX5_workPlain_114 : decode cX5_workPlain 114 = .ok (.getfield 45, 3) := by decide +kernel
theorem dX5_workPlain_117 : decode cX5_workPlain 117 = .ok (.iload_n 1, 1) := by decide +kernel
theorem dX5_workPlain_118 : decode cX5_workPlain 118 = .ok (.iaload, 1) := by decide +kernel
theorem dX5_workPlain_119 : decode cX5_workPlain 119 = .ok (.if_icmp .le 7, 3) := by decide +kernel
theorem dX5_workPlain_122 : decode cX5_workPlain 122 = .ok (.iconst 1, 1) := by decide +kernel
theorem dX5_workPlain_123 : decode cX5_workPlain 123 = .ok (.goto 4, 3) := by decide +kernel
theorem dX5_workPlain_126 : decode cX5_workPlain 126 = .ok (.iconst 0, 1) := by decide +kernel
theorem dX5_workPlain_127 : decode cX5_workPlain 127 = .ok (.bastore, 1) := by decide +kernel
theorem dX5_workPlain_128 : decode cX5_workPlain 128 = .ok (.iinc 2 1, 3) := by decide +kernel
theorem dX5_workPlain_131 : decode cX5_workPlain 131 = .ok (.goto (-58), 3) := by decide +kernel
theorem dX5_workPlain_134 : decode cX5_workPlain 134 = .ok (.return_, 1) := by decide +kernel
theorem dX5_workJoined_0 : decode cX5_workJoined 0 = .ok (.iconst 1, 1) := by decide +kernel
theorem dX5_workJoined_1 : decode cX5_workJoined 1 = .ok (.istore_n 2, 1) := by decide +kernel
theorem dX5_workJoined_2 : decode cX5_workJoined 2 = .ok (.iconst 0, 1) := by decide +kernel
theorem dX5_workJoined_3 : decode cX5_workJoined 3 = .ok (.istore_n 3, 1) := by decide +kernel
theorem dX5_workJoined_4 : decode cX5_workJoined 4 = .ok (.iload_n 3, 1) := by decide +kernel
theorem dX5_workJoined_5 : decode cX5_workJoined 5 = .ok (.iconst 4, 1) := by decide +kernel
theorem dX5_workJoined_6 : decode cX5_workJoined 6 = .ok (.if_icmp .ge 54, 3) := by decide +kernel
theorem dX5_workJoined_9 : decode cX5_workJoined 9 = .ok (.iload_n 2, 1) := by decide +kernel
theorem dX5_workJoined_10 : decode cX5_workJoined 10 = .ok (.ifCond .eq 42, 3) := by decide +kernel
theorem dX5_workJoined_13 : decode cX5_workJoined 13 = .ok (.aload_n 0, 1) := by decide +kernel
theorem dX5_workJoined_14 : decode cX5_workJoined 14 = .ok (.getfield 51, 3) := by decide +kernel
theorem dX5_workJoined_17 : decode cX5_workJoined 17 = .ok (.iconst 4, 1) := by decide +kernel
theorem dX5_workJoined_18 : decode cX5_workJoined 18 = .ok (.iload_n 1, 1) := by decide +kernel
theorem dX5_workJoined_19 : decode cX5_workJoined 19 = .ok (.imul, 1) := by decide +kernel
theorem dX5_workJoined_20 : decode cX5_workJoined 20 = .ok (.iload_n 3, 1) := by decide +kernel
theorem dX5_workJoined_21 : decode cX5_workJoined 21 = .ok (.iadd, 1) := by decide +kernel
theorem dX5_workJoined_22 : decode cX5_workJoined 22 = .ok (.iaload, 1) := by decide +kernel
theorem dX5_workJoined_23 : decode cX5_workJoined 23 = .ok (.ifCond .lt 25, 3) := by decide +kernel
theorem dX5_workJoined_26 : decode cX5_workJoined 26 = .ok (.aload_n 0, 1) := by decide +kernel
theorem dX5_workJoined_27 : decode cX5_workJoined 27 = .ok (.getfield 60, 3) := by decide +kernel
theorem dX5_workJoined_30 : decode cX5_workJoined 30 = .ok (.aload_n 0, 1) := by decide +kernel
theorem dX5_workJoined_31 : decode cX5_workJoined 31 = .ok (.aload_n 0, 1) := by decide +kernel
theorem dX5_workJoined_32 : decode cX5_workJoined 32 = .ok (.getfield 51, 3) := by decide +kernel
theorem dX5_workJoined_35 : decode cX5_workJoined 35 = .ok (.iconst 4, 1) := by decide +kernel
theorem dX5_workJoined_36 : decode cX5_workJoined 36 = .ok (.iload_n 1, 1) := by decide +kernel
theorem dX5_workJoined_37 : decode cX5_workJoined 37 = .ok (.imul, 1) := by decide +kernel
theorem dX5_workJoined_38 : decode cX5_workJoined 38 = .ok (.iload_n 3, 1) := by decide +kernel
theorem dX5_workJoined_39 : decode cX5_workJoined 39 = .ok (.iadd, 1) := by decide +kernel
theorem dX5_workJoined_40 : decode cX5_workJoined 40 = .ok (.iaload, 1) := by decide +kernel
theorem dX5_workJoined_41 : decode cX5_workJoined 41 = .ok (.invokevirtual 121, 3) := by decide +kernel
theorem dX5_workJoined_44 : decode cX5_workJoined 44 = .ok (.baload, 1) := by decide +kernel
theorem dX5_workJoined_45 : decode cX5_workJoined 45 = .ok (.ifCond .eq 7, 3) := by decide +kernel
theorem dX5_workJoined_48 : decode cX5_workJoined 48 = .ok (.iconst 1, 1) := by decide +kernel
theorem dX5_workJoined_49 : decode cX5_workJoined 49 = .ok (.goto 4, 3) := by decide +kernel
theorem dX5_workJoined_52 : decode cX5_workJoined 52 = .ok (.iconst 0, 1) := by decide +kernel
theorem dX5_workJoined_53 : decode cX5_workJoined 53 = .ok (.istore_n 2, 1) := by decide +kernel
theorem dX5_workJoined_54 : decode cX5_workJoined 54 = .ok (.iinc 3 1, 3) := by decide +kernel
theorem dX5_workJoined_57 : decode cX5_workJoined 57 = .ok (.goto (-53), 3) := by decide +kernel
theorem dX5_workJoined_60 : decode cX5_workJoined 60 = .ok (.iload_n 2, 1) := by decide +kernel
theorem dX5_workJoined_61 : decode cX5_workJoined 61 = .ok (.ifCond .ne 4, 3) := by decide +kernel
theorem dX5_workJoined_64 : decode cX5_workJoined 64 = .ok (.return_, 1) := by decide +kernel
theorem dX5_workJoined_65 : decode cX5_workJoined 65 = .ok (.aload_n 0, 1) := by decide +kernel
theorem dX5_workJoined_66 : decode cX5_workJoined 66 = .ok (.getfield 60, 3) := by decide +kernel
theorem dX5_workJoined_69 : decode cX5_workJoined 69 = .ok (.iload_n 1, 1) := by decide +kernel
theorem dX5_workJoined_70 : decode cX5_workJoined 70 = .ok (.iconst 1, 1) := by decide +kernel
theorem dX5_workJoined_71 : decode cX5_workJoined 71 = .ok (.bastore, 1) := by decide +kernel
theorem dX5_workJoined_72 : decode cX5_workJoined 72 = .ok (.aload_n 0, 1) := by decide +kernel
theorem dX5_workJoined_73 : decode cX5_workJoined 73 = .ok (.getfield 64, 3) := by decide +kernel
theorem dX5_workJoined_76 : decode cX5_workJoined 76 = .ok (.iload_n 1, 1) := by decide +kernel
theorem dX5_workJoined_77 : decode cX5_workJoined 77 = .ok (.lconst 0, 1) := by decide +kernel
theorem dX5_workJoined_78 : decode cX5_workJoined 78 = .ok (.lastore, 1) := by decide +kernel
theorem dX5_workJoined_79 : decode cX5_workJoined 79 = .ok (.aload_n 0, 1) := by decide +kernel
theorem dX5_workJoined_80 : decode cX5_workJoined 80 = .ok (.getfield 70, 3) := by decide +kernel
theorem dX5_workJoined_83 : decode cX5_workJoined 83 = .ok (.iload_n 1, 1) := by decide +kernel
theorem dX5_workJoined_84 : decode cX5_workJoined 84 = .ok (.iconst 0, 1) := by decide +kernel
theorem dX5_workJoined_85 : decode cX5_workJoined 85 = .ok (.iastore, 1) := by decide +kernel
theorem dX5_workJoined_86 : decode cX5_workJoined 86 = .ok (.aload_n 0, 1) := by decide +kernel
theorem dX5_workJoined_87 : decode cX5_workJoined 87 = .ok (.getfield 73, 3) := by decide +kernel
theorem dX5_workJoined_90 : decode cX5_workJoined 90 = .ok (.iload_n 1, 1) := by decide +kernel
theorem dX5_workJoined_91 : decode cX5_workJoined 91 = .ok (.iconst 0, 1) := by decide +kernel
theorem dX5_workJoined_92 : decode cX5_workJoined 92 = .ok (.bastore, 1) := by decide +kernel
theorem dX5_workJoined_93 : decode cX5_workJoined 93 = .ok (.iconst 0, 1) := by decide +kernel
theorem dX5_workJoined_94 : decode cX5_workJoined 94 = .ok (.istore_n 3, 1) := by decide +kernel
theorem dX5_workJoined_95 : decode cX5_workJoined 95 = .ok (.iload_n 3, 1) := by decide +kernel
theorem dX5_workJoined_96 : decode cX5_workJoined 96 = .ok (.iconst 3, 1) := by decide +kernel
theorem dX5_workJoined_97 : decode cX5_workJoined 97 = .ok (.if_icmp .ge 23, 3) := by decide +kernel
theorem dX5_workJoined_100 : decode cX5_workJoined 100 = .ok (.aload_n 0, 1) := by decide +kernel
theorem dX5_workJoined_101 : decode cX5_workJoined 101 = .ok (.getfield 67, 3) := by decide +kernel
theorem dX5_workJoined_104 : decode cX5_workJoined 104 = .ok (.iconst 3, 1) := by decide +kernel
theorem dX5_workJoined_105 : decode cX5_workJoined 105 = .ok (.iload_n 1, 1) := by decide +kernel
theorem dX5_workJoined_106 : decode cX5_workJoined 106 = .ok (.imul, 1) := by decide +kernel
theorem dX5_workJoined_107 : decode cX5_workJoined 107 = .ok (.iload_n 3, 1) := by decide +kernel
theorem dX5_workJoined_108 : decode cX5_workJoined 108 = .ok (.iadd, 1) := by decide +kernel
theorem dX5_workJoined_109 : decode cX5_workJoined 109 = .ok (.iload_n 3, 1) := by decide +kernel
theorem dX5_workJoined_110 : decode cX5_workJoined 110 = .ok (.invokestatic 124, 3) := by decide +kernel
theorem dX5_workJoined_113 : decode cX5_workJoined 113 = .ok (.iastore, 1) := by decide +kernel
theorem dX5_workJoined_114 : decode cX5_workJoined 114 = .ok (.iinc 3 1, 3) := by decide +kernel
theorem dX5_workJoined_117 : decode cX5_workJoined 117 = .ok (.goto (-22), 3) := by decide +kernel
theorem dX5_workJoined_120 : decode cX5_workJoined 120 = .ok (.iconst 0, 1) := by decide +kernel
theorem dX5_workJoined_121 : decode cX5_workJoined 121 = .ok (.istore_n 3, 1) := by decide +kernel
theorem dX5_workJoined_122 : decode cX5_workJoined 122 = .ok (.iload_n 3, 1) := by decide +kernel
theorem dX5_workJoined_123 : decode cX5_workJoined 123 = .ok (.iconst 4, 1) := by decide +kernel
theorem dX5_workJoined_124 : decode cX5_workJoined 124 = .ok (.if_icmp .ge 141, 3) := by decide +kernel
theorem dX5_workJoined_127 : decode cX5_workJoined 127 = .ok (.aload_n 0, 1) := by decide +kernel
theorem dX5_workJoined_128 : decode cX5_workJoined 128 = .ok (.getfield 51, 3) := by decide +kernel
theorem dX5_workJoined_131 : decode cX5_workJoined 131 = .ok (.iconst 4, 1) := by decide +kernel
theorem dX5_workJoined_132 : decode cX5_workJoined 132 = .ok (.iload_n 1, 1) := by decide +kernel
theorem dX5_workJoined_133 : decode cX5_workJoined 133 = .ok (.imul, 1) := by decide +kernel
theorem dX5_workJoined_134 : decode cX5_workJoined 134 = .ok (.iload_n 3, 1) := by decide +kernel
theorem dX5_workJoined_135 : decode cX5_workJoined 135 = .ok (.iadd, 1) := by decide +kernel
theorem dX5_workJoined_136 : decode cX5_workJoined 136 = .ok (.iaload, 1) := by decide +kernel
theorem dX5_workJoined_137 : decode cX5_workJoined 137 = .ok (.ifCond .lt 128, 3) := by decide +kernel
theorem dX5_workJoined_140 : decode cX5_workJoined 140 = .ok (.aload_n 0, 1) := by decide +kernel
theorem dX5_workJoined_141 : decode cX5_workJoined 141 = .ok (.aload_n 0, 1) := by decide +kernel
theorem dX5_workJoined_142 : decode cX5_workJoined 142 = .ok (.getfield 51, 3) := by decide +kernel
theorem dX5_workJoined_145 : decode cX5_workJoined 145 = .ok (.iconst 4, 1) := by decide +kernel
theorem dX5_workJoined_146 : decode cX5_workJoined 146 = .ok (.iload_n 1, 1) := by decide +kernel
theorem dX5_workJoined_147 : decode cX5_workJoined 147 = .ok (.imul, 1) := by decide +kernel
theorem dX5_workJoined_148 : decode cX5_workJoined 148 = .ok (.iload_n 3, 1) := by decide +kernel
theorem dX5_workJoined_149 : decode cX5_workJoined 149 = .ok (.iadd, 1) := by decide +kernel
theorem dX5_workJoined_150 : decode cX5_workJoined 150 = .ok (.iaload, 1) := by decide +kernel
theorem dX5_workJoined_151 : decode cX5_workJoined 151 = .ok (.invokevirtual 121, 3) := by decide +kernel
theorem dX5_workJoined_154 : decode cX5_workJoined 154 = .ok (.istore 4, 2) := by decide +kernel
theorem dX5_workJoined_156 : decode cX5_workJoined 156 = .ok (.aload_n 0, 1) := by decide +kernel
theorem dX5_workJoined_157 : decode cX5_workJoined 157 = .ok (.getfield 64, 3) := by decide +kernel
theorem dX5_workJoined_160 : decode cX5_workJoined 160 = .ok (.iload_n 1, 1) := by decide +kernel
theorem dX5_workJoined_161 : decode cX5_workJoined 161 = .ok (.dup2, 1) := by decide +kernel
theorem dX5_workJoined_162 : decode cX5_workJoined 162 = .ok (.laload, 1) := by decide +kernel
theorem dX5_workJoined_163 : decode cX5_workJoined 163 = .ok (.aload_n 0, 1) := by decide +kernel
theorem dX5_workJoined_164 : decode cX5_workJoined 164 = .ok (.getfield 64, 3) := by decide +kernel
theorem dX5_workJoined_167 : decode cX5_workJoined 167 = .ok (.iload 4, 2) := by decide +kernel
theorem dX5_workJoined_169 : decode cX5_workJoined 169 = .ok (.laload, 1) := by decide +kernel
theorem dX5_workJoined_170 : decode cX5_workJoined 170 = .ok (.lor, 1) := by decide +kernel
theorem dX5_workJoined_171 : decode cX5_workJoined 171 = .ok (.lastore, 1) := by decide +kernel
theorem dX5_workJoined_172 : decode cX5_workJoined 172 = .ok (.aload_n 0, 1) := by decide +kernel
theorem dX5_workJoined_173 : decode cX5_workJoined 173 = .ok (.getfield 70, 3) := by decide +kernel
theorem dX5_workJoined_176 : decode cX5_workJoined 176 = .ok (.iload_n 1, 1) := by decide +kernel
theorem dX5_workJoined_177 : decode cX5_workJoined 177 = .ok (.dup2, 1) := by decide +kernel
theorem dX5_workJoined_178 : decode cX5_workJoined 178 = .ok (.iaload, 1) := by decide +kernel
theorem dX5_workJoined_179 : decode cX5_workJoined 179 = .ok (.aload_n 0, 1) := by decide +kernel
theorem dX5_workJoined_180 : decode cX5_workJoined 180 = .ok (.getfield 70, 3) := by decide +kernel
theorem dX5_workJoined_183 : decode cX5_workJoined 183 = .ok (.iload 4, 2) := by decide +kernel
theorem dX5_workJoined_185 : decode cX5_workJoined 185 = .ok (.iaload, 1) := by decide +kernel
theorem dX5_workJoined_186 : decode cX5_workJoined 186 = .ok (.ior, 1) := by decide +kernel
theorem dX5_workJoined_187 : decode cX5_workJoined 187 = .ok (.iastore, 1) := by decide +kernel
theorem dX5_workJoined_188 : decode cX5_workJoined 188 = .ok (.aload_n 0, 1) := by decide +kernel
theorem dX5_workJoined_189 : decode cX5_workJoined 189 = .ok (.getfield 73, 3) := by decide +kernel
theorem dX5_workJoined_192 : decode cX5_workJoined 192 = .ok (.iload_n 1, 1) := by decide +kernel
theorem dX5_workJoined_193 : decode cX5_workJoined 193 = .ok (.aload_n 0, 1) := by decide +kernel
theorem dX5_workJoined_194 : decode cX5_workJoined 194 = .ok (.getfield 73, 3) := by decide +kernel
theorem dX5_workJoined_197 : decode cX5_workJoined 197 = .ok (.iload_n 1, 1) := by decide +kernel
theorem dX5_workJoined_198 : decode cX5_workJoined 198 = .ok (.baload, 1) := by decide +kernel
theorem dX5_workJoined_199 : decode cX5_workJoined 199 = .ok (.ifCond .ne 13, 3) := by decide +kernel
theorem dX5_workJoined_202 : decode cX5_workJoined 202 = .ok (.aload_n 0, 1) := by decide +kernel
theorem dX5_workJoined_203 : decode cX5_workJoined 203 = .ok (.getfield 73, 3) := by decide +kernel
theorem dX5_workJoined_206 : decode cX5_workJoined 206 = .ok (.iload 4, 2) := by decide +kernel
theorem dX5_workJoined_208 : decode cX5_workJoined 208 = .ok (.baload, 1) := by decide +kernel
theorem dX5_workJoined_209 : decode cX5_workJoined 209 = .ok (.ifCond .eq 7, 3) := by decide +kernel
theorem dX5_workJoined_212 : decode cX5_workJoined 212 = .ok (.iconst 1, 1) := by decide +kernel
theorem dX5_workJoined_213 : decode cX5_workJoined 213 = .ok (.goto 4, 3) := by decide +kernel
theorem dX5_workJoined_216 : decode cX5_workJoined 216 = .ok (.iconst 0, 1) := by decide +kernel
theorem dX5_workJoined_217 : decode cX5_workJoined 217 = .ok (.bastore, 1) := by decide +kernel
theorem dX5_workJoined_218 : decode cX5_workJoined 218 = .ok (.iconst 0, 1) := by decide +kernel
theorem dX5_workJoined_219 : decode cX5_workJoined 219 = .ok (.istore 5, 2) := by decide +kernel
theorem dX5_workJoined_221 : decode cX5_workJoined 221 = .ok (.iload 5, 2) := by decide +kernel
theorem dX5_workJoined_223 : decode cX5_workJoined 223 = .ok (.iconst 3, 1) := by decide +kernel
theorem dX5_workJoined_224 : decode cX5_workJoined 224 = .ok (.if_icmp .ge 35, 3) := by decide +kernel
theorem dX5_workJoined_227 : decode cX5_workJoined 227 = .ok (.aload_n 0, 1) := by decide +kernel
theorem dX5_workJoined_228 : decode cX5_workJoined 228 = .ok (.getfield 67, 3) := by decide +kernel
theorem dX5_workJoined_231 : decode cX5_workJoined 231 = .ok (.iconst 3, 1) := by decide +kernel
theorem dX5_workJoined_232 : decode cX5_workJoined 232 = .ok (.iload_n 1, 1) := by decide +kernel
theorem dX5_workJoined_233 : decode cX5_workJoined 233 = .ok (.imul, 1) := by decide +kernel
theorem dX5_workJoined_234 : decode cX5_workJoined 234 = .ok (.iload 5, 2) := by decide +kernel
theorem dX5_workJoined_236 : decode cX5_workJoined 236 = .ok (.iadd, 1) := by decide +kernel
theorem dX5_workJoined_237 : decode cX5_workJoined 237 = .ok (.dup2, 1) := by decide +kernel
theorem dX5_workJoined_238 : decode cX5_workJoined 238 = .ok (.iaload, 1) := by decide +kernel
theorem dX5_workJoined_239 : decode cX5_workJoined 239 = .ok (.aload_n 0, 1) := by decide +kernel
theorem dX5_workJoined_240 : decode cX5_workJoined 240 = .ok (.getfield 67, 3) := by decide +kernel
theorem dX5_workJoined_243 : decode cX5_workJoined 243 = .ok (.iconst 3, 1) := by decide +kernel
theorem dX5_workJoined_244 : decode cX5_workJoined 244 = .ok (.iload 4, 2) := by decide +kernel
theorem dX5_workJoined_246 : decode cX5_workJoined 246 = .ok (.imul, 1) := by decide +kernel
theorem dX5_workJoined_247 : decode cX5_workJoined 247 = .ok (.iload 5, 2) := by decide +kernel
theorem dX5_workJoined_249 : decode cX5_workJoined 249 = .ok (.iadd, 1) := by decide +kernel
theorem dX5_workJoined_250 : decode cX5_workJoined 250 = .ok (.iaload, 1) := by decide +kernel
theorem dX5_workJoined_251 : decode cX5_workJoined 251 = .ok (.iand, 1) := by decide +kernel
theorem dX5_workJoined_252 : decode cX5_workJoined 252 = .ok (.iastore, 1) := by decide +kernel
theorem dX5_workJoined_253 : decode cX5_workJoined 253 = .ok (.iinc 5 1, 3) := by decide +kernel
theorem dX5_workJoined_256 : decode cX5_workJoined 256 = .ok (.goto (-35), 3) := by decide +kernel
theorem dX5_workJoined_259 : decode cX5_workJoined 259 = .ok (.iinc 3 1, 3) := by decide +kernel
theorem dX5_workJoined_262 : decode cX5_workJoined 262 = .ok (.goto (-140), 3) := by decide +kernel
theorem dX5_workJoined_265 : decode cX5_workJoined 265 = .ok (.return_, 1) := by decide +kernel
theorem dX5_work_0 : decode cX5_work 0 = .ok (.iconst 0, 1) := by decide +kernel
theorem dX5_work_1 : decode cX5_work 1 = .ok (.istore_n 1, 1) := by decide +kernel
theorem dX5_work_2 : decode cX5_work 2 = .ok (.iload_n 1, 1) := by decide +kernel
theorem dX5_work_3 : decode cX5_work 3 = .ok (.aload_n 0, 1) := by decide +kernel
theorem dX5_work_4 : decode cX5_work 4 = .ok (.getfield 79, 3) := by decide +kernel
theorem dX5_work_7 : decode cX5_work 7 = .ok (.if_icmp .ge 30, 3) := by decide +kernel
theorem dX5_work_10 : decode cX5_work 10 = .ok (.aload_n 0, 1) := by decide +kernel
theorem dX5_work_11 : decode cX5_work 11 = .ok (.getfield 60, 3) := by decide +kernel
theorem dX5_work_14 : decode cX5_work 14 = .ok (.iload_n 1, 1) := by decide +kernel
theorem dX5_work_15 : decode cX5_work 15 = .ok (.iconst 0, 1) := by decide +kernel
theorem dX5_work_16 : decode cX5_work 16 = .ok (.bastore, 1) := by decide +kernel
theorem dX5_work_17 : decode cX5_work 17 = .ok (.aload_n 0, 1) := by decide +kernel
theorem dX5_work_18 : decode cX5_work 18 = .ok (.getfield 26, 3) := by decide +kernel
theorem dX5_work_21 : decode cX5_work 21 = .ok (.iload_n 1, 1) := by decide +kernel
theorem dX5_work_22 : decode cX5_work 22 = .ok (.iaload, 1) := by decide +kernel
theorem dX5_work_23 : decode cX5_work 23 = .ok (.ifCond .ne 8, 3) := by decide +kernel
theorem dX5_work_26 : decode cX5_work 26 = .ok (.aload_n 0, 1) := by decide +kernel
theorem dX5_work_27 : decode cX5_work 27 = .ok (.iload_n 1, 1) := by decide +kernel
theorem dX5_work_28 : decode cX5_work 28 = .ok (.invokevirtual 127, 3) := by decide +kernel
theorem dX5_work_31 : decode cX5_work 31 = .ok (.iinc 1 1, 3) := by decide +kernel
theorem dX5_work_34 : decode cX5_work 34 = .ok (.goto (-32), 3) := by decide +kernel
theorem dX5_work_37 : decode cX5_work 37 = .ok (.iconst 0, 1) := by decide +kernel
theorem dX5_work_38 : decode cX5_work 38 = .ok (.istore_n 1, 1) := by decide +kernel
theorem dX5_work_39 : decode cX5_work 39 = .ok (.iload_n 1, 1) := by decide +kernel
theorem dX5_work_40 : decode cX5_work 40 = .ok (.aload_n 0, 1) := by decide +kernel
theorem dX5_work_41 : decode cX5_work 41 = .ok (.getfield 79, 3) := by decide +kernel
theorem dX5_work_44 : decode cX5_work 44 = .ok (.if_icmp .ge 39, 3) := by decide +kernel
theorem dX5_work_47 : decode cX5_work 47 = .ok (.iconst 0, 1) := by decide +kernel
theorem dX5_work_48 : decode cX5_work 48 = .ok (.istore_n 2, 1) := by decide +kernel
theorem dX5_work_49 : decode cX5_work 49 = .ok (.iload_n 2, 1) := by decide +kernel
theorem dX5_work_50 : decode cX5_work 50 = .ok (.aload_n 0, 1) := by decide +kernel
theorem dX5_work_51 : decode cX5_work 51 = .ok (.getfield 79, 3) := by decide +kernel
theorem dX5_work_54 : decode cX5_work 54 = .ok (.if_icmp .ge 23, 3) := by decide +kernel
theorem dX5_work_57 : decode cX5_work 57 = .ok (.aload_n 0, 1) := by decide +kernel
theorem dX5_work_58 : decode cX5_work 58 = .ok (.getfield 60, 3) := by decide +kernel
theorem dX5_work_61 : decode cX5_work 61 = .ok (.iload_n 2, 1) := by decide +kernel
theorem dX5_work_62 : decode cX5_work 62 = .ok (.baload, 1) := by decide +kernel
theorem dX5_work_63 : decode cX5_work 63 = .ok (.ifCond .ne 8, 3) := by decide +kernel
theorem dX5_work_66 : decode cX5_work 66 = .ok (.aload_n 0, 1) := by decide +kernel
theorem dX5_work_67 : decode cX5_work 67 = .ok (.iload_n 2, 1) := by decide +kernel
theorem dX5_work_68 : decode cX5_work 68 = .ok (.invokevirtual 131, 3) := by decide +kernel
theorem dX5_work_71 : decode cX5_work 71 = .ok (.iinc 2 1, 3) := by decide +kernel
theorem dX5_work_74 : decode cX5_work 74 = .ok (.goto (-25), 3) := by decide +kernel
theorem dX5_work_77 : decode cX5_work 77 = .ok (.iinc 1 1, 3) := by decide +kernel
theorem dX5_work_80 : decode cX5_work 80 = .ok (.goto (-41), 3) := by decide +kernel
theorem dX5_work_83 : decode cX5_work 83 = .ok (.return_, 1) := by decide +kernel
theorem dX5_hasPart_0 : decode cX5_hasPart 0 = .ok (.iconst 0, 1) := by decide +kernel
theorem dX5_hasPart_1 : decode cX5_hasPart 1 = .ok (.istore_n 3, 1) := by decide +kernel
theorem dX5_hasPart_2 : decode cX5_hasPart 2 = .ok (.iload_n 3, 1) := by decide +kernel
theorem dX5_hasPart_3 : decode cX5_hasPart 3 = .ok (.aload_n 0, 1) := by decide +kernel
theorem dX5_hasPart_4 : decode cX5_hasPart 4 = .ok (.getfield 79, 3) := by decide +kernel
theorem dX5_hasPart_7 : decode cX5_hasPart 7 = .ok (.if_icmp .ge 25, 3) := by decide +kernel
theorem dX5_hasPart_10 : decode cX5_hasPart 10 = .ok (.aload_n 0, 1) := by decide +kernel
theorem dX5_hasPart_11 : decode cX5_hasPart 11 = .ok (.getfield 60, 3) := by decide +kernel
theorem dX5_hasPart_14 : decode cX5_hasPart 14 = .ok (.iload_n 3, 1) := by decide +kernel
theorem dX5_hasPart_15 : decode cX5_hasPart 15 = .ok (.iload_n 3, 1) := by decide +kernel
theorem dX5_hasPart_16 : decode cX5_hasPart 16 = .ok (.iload_n 1, 1) := by decide +kernel
theorem dX5_hasPart_17 : decode cX5_hasPart 17 = .ok (.if_icmp .ne 7, 3) := by decide +kernel
theorem dX5_hasPart_20 : decode cX5_hasPart 20 = .ok (.iconst 1, 1) := by decide +kernel
theorem dX5_hasPart_21 : decode cX5_hasPart 21 = .ok (.goto 4, 3) := by decide +kernel
theorem dX5_hasPart_24 : decode cX5_hasPart 24 = .ok (.iconst 0, 1) := by decide +kernel
theorem dX5_hasPart_25 : decode cX5_hasPart 25 = .ok (.bastore, 1) := by decide +kernel
theorem dX5_hasPart_26 : decode cX5_hasPart 26 = .ok (.iinc 3 1, 3) := by decide +kernel
theorem dX5_hasPart_29 : decode cX5_hasPart 29 = .ok (.goto (-27), 3) := by decide +kernel
theorem dX5_hasPart_32 : decode cX5_hasPart 32 = .ok (.iconst 0, 1) := by decide +kernel
theorem dX5_hasPart_33 : decode cX5_hasPart 33 = .ok (.istore_n 3, 1) := by decide +kernel
theorem dX5_hasPart_34 : decode cX5_hasPart 34 = .ok (.iload_n 3, 1) := by decide +kernel
theorem dX5_hasPart_35 : decode cX5_hasPart 35 = .ok (.aload_n 0, 1) := by decide +kernel
theorem dX5_hasPart_36 : decode cX5_hasPart 36 = .ok (.getfield 79, 3) := by decide +kernel
theorem dX5_hasPart_39 : decode cX5_hasPart 39 = .ok (.if_icmp .ge 100, 3) := by decide +kernel
theorem dX5_hasPart_42 : decode cX5_hasPart 42 = .ok (.iconst 0, 1) := by decide +kernel
theorem dX5_hasPart_43 : decode cX5_hasPart 43 = .ok (.istore 4, 2) := by decide +kernel
theorem dX5_hasPart_45 : decode cX5_hasPart 45 = .ok (.iload 4, 2) := by decide +kernel
theorem dX5_hasPart_47 : decode cX5_hasPart 47 = .ok (.aload_n 0, 1) := by decide +kernel
theorem dX5_hasPart_48 : decode cX5_hasPart 48 = .ok (.getfield 79, 3) := by decide +kernel
theorem dX5_hasPart_51 : decode cX5_hasPart 51 = .ok (.if_icmp .ge 82, 3) := by decide +kernel
theorem dX5_hasPart_54 : decode cX5_hasPart 54 = .ok (.iconst 0, 1) := by decide +kernel
theorem dX5_hasPart_55 : decode cX5_hasPart 55 = .ok (.istore 5, 2) := by decide +kernel
theorem dX5_hasPart_57 : decode cX5_hasPart 57 = .ok (.iload 5, 2) := by decide +kernel
theorem dX5_hasPart_59 : decode cX5_hasPart 59 = .ok (.iconst 4, 1) := by decide +kernel
theorem dX5_hasPart_60 : decode cX5_hasPart 60 = .ok (.if_icmp .ge 67, 3) := by decide +kernel
theorem dX5_hasPart_63 : decode cX5_hasPart 63 = .ok (.aload_n 0, 1) := by decide +kernel
theorem dX5_hasPart_64 : decode cX5_hasPart 64 = .ok (.getfield 60, 3) := by decide +kernel
theorem dX5_hasPart_67 : decode cX5_hasPart 67 = .ok (.iload 4, 2) := by decide +kernel
theorem dX5_hasPart_69 : decode cX5_hasPart 69 = .ok (.baload, 1) := by decide +kernel
theorem dX5_hasPart_70 : decode cX5_hasPart 70 = .ok (.ifCond .eq 57, 3) := by decide +kernel
theorem dX5_hasPart_73 : decode cX5_hasPart 73 = .ok (.aload_n 0, 1) := by decide +kernel
theorem dX5_hasPart_74 : decode cX5_hasPart 74 = .ok (.getfield 26, 3) := by decide +kernel
theorem dX5_hasPart_77 : decode cX5_hasPart 77 = .ok (.iload 4, 2) := by decide +kernel
theorem dX5_hasPart_79 : decode cX5_hasPart 79 = .ok (.iaload, 1) := by decide +kernel
theorem dX5_hasPart_80 : decode cX5_hasPart 80 = .ok (.iconst 1, 1) := by decide +kernel
theorem dX5_hasPart_81 : decode cX5_hasPart 81 = .ok (.if_icmp .ne 46, 3) := by decide +kernel
theorem dX5_hasPart_84 : decode cX5_hasPart 84 = .ok (.aload_n 0, 1) := by decide +kernel
theorem dX5_hasPart_85 : decode cX5_hasPart 85 = .ok (.getfield 51, 3) := by decide +kernel
theorem dX5_hasPart_88 : decode cX5_hasPart 88 = .ok (.iconst 4, 1) := by decide +kernel
theorem dX5_hasPart_89 : decode cX5_hasPart 89 = .ok (.iload 4, 2) := by decide +kernel
theorem dX5_hasPart_91 : decode cX5_hasPart 91 = .ok (.imul, 1) := by decide +kernel
theorem dX5_hasPart_92 : decode cX5_hasPart 92 = .ok (.iload 5, 2) := by decide +kernel
theorem dX5_hasPart_94 : decode cX5_hasPart 94 = .ok (.iadd, 1) := by decide +kernel
theorem dX5_hasPart_95 : decode cX5_hasPart 95 = .ok (.iaload, 1) := by decide +kernel
theorem dX5_hasPart_96 : decode cX5_hasPart 96 = .ok (.ifCond .lt 25, 3) := by decide +kernel
theorem dX5_hasPart_99 : decode cX5_hasPart 99 = .ok (.aload_n 0, 1) := by decide +kernel
theorem dX5_hasPart_100 : decode cX5_hasPart 100 = .ok (.getfield 60, 3) := by decide +kernel
theorem dX5_hasPart_103 : decode cX5_hasPart 103 = .ok (.aload_n 0, 1) := by decide +kernel
theorem dX5_hasPart_104 : decode cX5_hasPart 104 = .ok (.aload_n 0, 1) := by decide +kernel
theorem dX5_hasPart_105 : decode cX5_hasPart 105 = .ok (.getfield 51, 3) := by decide +kernel
theorem dX5_hasPart_108 : decode cX5_hasPart 108 = .ok (.iconst 4, 1) := by decide +kernel
theorem dX5_hasPart_109 : decode cX5_hasPart 109 = .ok (.iload 4, 2) := by decide +kernel
theorem dX5_hasPart_111 : decode cX5_hasPart 111 = .ok (.imul, 1) := by decide +kernel
theorem dX5_hasPart_112 : decode cX5_hasPart 112 = .ok (.iload 5, 2) := by decide +kernel
theorem dX5_hasPart_114 : decode cX5_hasPart 114 = .ok (.iadd, 1) := by decide +kernel
theorem dX5_hasPart_115 : decode cX5_hasPart 115 = .ok (.iaload, 1) := by decide +kernel
theorem dX5_hasPart_116 : decode cX5_hasPart 116 = .ok (.invokevirtual 121, 3) := by decide +kernel
theorem dX5_hasPart_119 : decode cX5_hasPart 119 = .ok (.iconst 1, 1) := by decide +kernel
theorem dX5_hasPart_120 : decode cX5_hasPart 120 = .ok (.bastore, 1) := by decide +kernel
theorem dX5_hasPart_121 : decode cX5_hasPart 121 = .ok (.iinc 5 1, 3) := by decide +kernel
theorem dX5_hasPart_124 : decode cX5_hasPart 124 = .ok (.goto (-67), 3) := by decide +kernel
theorem dX5_hasPart_127 : decode cX5_hasPart 127 = .ok (.iinc 4 1, 3) := by decide +kernel
theorem dX5_hasPart_130 : decode cX5_hasPart 130 = .ok (.goto (-85), 3) := by decide +kernel
theorem dX5_hasPart_133 : decode cX5_hasPart 133 = .ok (.iinc 3 1, 3) := by decide +kernel
theorem dX5_hasPart_136 : decode cX5_hasPart 136 = .ok (.goto (-102), 3) := by decide +kernel
theorem dX5_hasPart_139 : decode cX5_hasPart 139 = .ok (.aload_n 0, 1) := by decide +kernel
theorem dX5_hasPart_140 : decode cX5_hasPart 140 = .ok (.getfield 60, 3) := by decide +kernel
theorem dX5_hasPart_143 : decode cX5_hasPart 143 = .ok (.iload_n 2, 1) := by decide +kernel
theorem dX5_hasPart_144 : decode cX5_hasPart 144 = .ok (.baload, 1) := by decide +kernel
theorem dX5_hasPart_145 : decode cX5_hasPart 145 = .ok (.ireturn, 1) := by decide +kernel
theorem dX5_move_0 : decode cX5_move 0 = .ok (.aload_n 0, 1) := by decide +kernel
theorem dX5_move_1 : decode cX5_move 1 = .ok (.iload_n 1, 1) := by decide +kernel
theorem dX5_move_2 : decode cX5_move 2 = .ok (.invokevirtual 111, 3) := by decide +kernel
theorem dX5_move_5 : decode cX5_move 5 = .ok (.ifCond .eq 11, 3) := by decide +kernel
theorem dX5_move_8 : decode cX5_move 8 = .ok (.aload_n 0, 1) := by decide +kernel
theorem dX5_move_9 : decode cX5_move 9 = .ok (.iload_n 2, 1) := by decide +kernel
theorem dX5_move_10 : decode cX5_move 10 = .ok (.invokevirtual 111, 3) := by decide +kernel
theorem dX5_move_13 : decode cX5_move 13 = .ok (.ifCond .ne 7, 3) := by decide +kernel
theorem dX5_move_16 : decode cX5_move 16 = .ok (.sipush (-1001), 3) := by decide +kernel
theorem dX5_move_19 : decode cX5_move 19 = .ok (.ireturn, 1) := by decide +kernel
theorem dX5_move_20 : decode cX5_move 20 = .ok (.aload_n 0, 1) := by decide +kernel
theorem dX5_move_21 : decode cX5_move 21 = .ok (.iload_n 2, 1) := by decide +kernel
theorem dX5_move_22 : decode cX5_move 22 = .ok (.invokevirtual 121, 3) := by decide +kernel
theorem dX5_move_25 : decode cX5_move 25 = .ok (.istore_n 3, 1) := by decide +kernel
theorem dX5_move_26 : decode cX5_move 26 = .ok (.aload_n 0, 1) := by decide +kernel
theorem dX5_move_27 : decode cX5_move 27 = .ok (.getfield 29, 3) := by decide +kernel
theorem dX5_move_30 : decode cX5_move 30 = .ok (.iload_n 1, 1) := by decide +kernel
theorem dX5_move_31 : decode cX5_move 31 = .ok (.iaload, 1) := by decide +kernel
theorem dX5_move_32 : decode cX5_move 32 = .ok (.ifCond .ge 17, 3) := by decide +kernel
theorem dX5_move_35 : decode cX5_move 35 = .ok (.iload_n 3, 1) := by decide +kernel
theorem dX5_move_36 : decode cX5_move 36 = .ok (.iload_n 1, 1) := by decide +kernel
theorem dX5_move_37 : decode cX5_move 37 = .ok (.if_icmp .eq 12, 3) := by decide +kernel
theorem dX5_move_40 : decode cX5_move 40 = .ok (.aload_n 0, 1) := by decide +kernel
theorem dX5_move_41 : decode cX5_move 41 = .ok (.iload_n 3, 1) := by decide +kernel
theorem dX5_move_42 : decode cX5_move 42 = .ok (.iload_n 1, 1) := by decide +kernel
theorem dX5_move_43 : decode cX5_move 43 = .ok (.invokevirtual 134, 3) := by decide +kernel
theorem dX5_move_46 : decode cX5_move 46 = .ok (.ifCond .eq 7, 3) := by decide +kernel
theorem dX5_move_49 : decode cX5_move 49 = .ok (.sipush (-1003), 3) := by decide +kernel
theorem dX5_move_52 : decode cX5_move 52 = .ok (.ireturn, 1) := by decide +kernel
theorem dX5_move_53 : decode cX5_move 53 = .ok (.aload_n 0, 1) := by decide +kernel
theorem dX5_move_54 : decode cX5_move 54 = .ok (.getfield 29, 3) := by decide +kernel
theorem dX5_move_57 : decode cX5_move 57 = .ok (.iload_n 1, 1) := by decide +kernel
theorem dX5_move_58 : decode cX5_move 58 = .ok (.iload_n 2, 1) := by decide +kernel
theorem dX5_move_59 : decode cX5_move 59 = .ok (.iastore, 1) := by decide +kernel
theorem dX5_move_60 : decode cX5_move 60 = .ok (.iload_n 3, 1) := by decide +kernel
theorem dX5_move_61 : decode cX5_move 61 = .ok (.ireturn, 1) := by decide +kernel
theorem dX5_isWithin_0 : decode cX5_isWithin 0 = .ok (.iconst 1, 1) := by decide +kernel
theorem dX5_isWithin_1 : decode cX5_isWithin 1 = .ok (.istore_n 3, 1) := by decide +kernel
theorem dX5_isWithin_2 : decode cX5_isWithin 2 = .ok (.iconst 0, 1) := by decide +kernel
theorem dX5_isWithin_3 : decode cX5_isWithin 3 = .ok (.istore 4, 2) := by decide +kernel
theorem dX5_isWithin_5 : decode cX5_isWithin 5 = .ok (.iload 4, 2) := by decide +kernel
theorem dX5_isWithin_7 : decode cX5_isWithin 7 = .ok (.iconst 3, 1) := by decide +kernel
theorem dX5_isWithin_8 : decode cX5_isWithin 8 = .ok (.if_icmp .ge 47, 3) := by decide +kernel
theorem dX5_isWithin_11 : decode cX5_isWithin 11 = .ok (.iload_n 3, 1) := by decide +kernel
theorem dX5_isWithin_12 : decode cX5_isWithin 12 = .ok (.ifCond .eq 35, 3) := by decide +kernel
theorem dX5_isWithin_15 : decode cX5_isWithin 15 = .ok (.aload_n 0, 1) := by decide +kernel
theorem dX5_isWithin_16 : decode cX5_isWithin 16 = .ok (.getfield 39, 3) := by decide +kernel
theorem dX5_isWithin_19 : decode cX5_isWithin 19 = .ok (.iconst 3, 1) := by decide +kernel
theorem dX5_isWithin_20 : decode cX5_isWithin 20 = .ok (.iload_n 1, 1) := by decide +kernel
theorem dX5_isWithin_21 : decode cX5_isWithin 21 = .ok (.imul, 1) := by decide +kernel
theorem dX5_isWithin_22 : decode cX5_isWithin 22 = .ok (.iload 4, 2) := by decide +kernel
theorem dX5_isWithin_24 : decode cX5_isWithin 24 = .ok (.iadd, 1) := by decide +kernel
theorem dX5_isWithin_25 : decode cX5_isWithin 25 = .ok (.iaload, 1) := by decide +kernel
theorem dX5_isWithin_26 : decode cX5_isWithin 26 = .ok (.aload_n 0, 1) := by decide +kernel
theorem dX5_isWithin_27 : decode cX5_isWithin 27 = .ok (.getfield 39, 3) := by decide +kernel
theorem dX5_isWithin_30 : decode cX5_isWithin 30 = .ok (.iconst 3, 1) := by decide +kernel
theorem dX5_isWithin_31 : decode cX5_isWithin 31 = .ok (.iload_n 2, 1) := by decide +kernel
theorem dX5_isWithin_32 : decode cX5_isWithin 32 = .ok (.imul, 1) := by decide +kernel
theorem dX5_isWithin_33 : decode cX5_isWithin 33 = .ok (.iload 4, 2) := by decide +kernel
theorem dX5_isWithin_35 : decode cX5_isWithin 35 = .ok (.iadd, 1) := by decide +kernel
theorem dX5_isWithin_36 : decode cX5_isWithin 36 = .ok (.iaload, 1) := by decide +kernel
theorem dX5_isWithin_37 : decode cX5_isWithin 37 = .ok (.iconst (-1), 1) := by decide +kernel
theorem dX5_isWithin_38 : decode cX5_isWithin 38 = .ok (.ixor, 1) := by decide +kernel
theorem dX5_isWithin_39 : decode cX5_isWithin 39 = .ok (.iand, 1) := by decide +kernel
theorem dX5_isWithin_40 : decode cX5_isWithin 40 = .ok (.ifCond .ne 7, 3) := by decide +kernel
theorem dX5_isWithin_43 : decode cX5_isWithin 43 = .ok (.iconst 1, 1) := by decide +kernel
theorem dX5_isWithin_44 : decode cX5_isWithin 44 = .ok (.goto 4, 3) := by decide +kernel
theorem dX5_isWithin_47 : decode cX5_isWithin 47 = .ok (.iconst 0, 1) := by decide +kernel
theorem dX5_isWithin_48 : decode cX5_isWithin 48 = .ok (.istore_n 3, 1) := by decide +kernel
theorem dX5_isWithin_49 : decode cX5_isWithin 49 = .ok (.iinc 4 1, 3) := by decide +kernel
theorem dX5_isWithin_52 : decode cX5_isWithin 52 = .ok (.goto (-47), 3) := by decide +kernel
theorem dX5_isWithin_55 : decode cX5_isWithin 55 = .ok (.iload_n 3, 1) := by decide +kernel
theorem dX5_isWithin_56 : decode cX5_isWithin 56 = .ok (.ireturn, 1) := by decide +kernel
theorem dX5_melt_0 : decode cX5_melt 0 = .ok (.aload_n 0, 1) := by decide +kernel
theorem dX5_melt_1 : decode cX5_melt 1 = .ok (.iload_n 1, 1) := by decide +kernel
theorem dX5_melt_2 : decode cX5_melt 2 = .ok (.invokevirtual 111, 3) := by decide +kernel
theorem dX5_melt_5 : decode cX5_melt 5 = .ok (.ifCond .eq 11, 3) := by decide +kernel
theorem dX5_melt_8 : decode cX5_melt 8 = .ok (.aload_n 0, 1) := by decide +kernel
theorem dX5_melt_9 : decode cX5_melt 9 = .ok (.iload_n 2, 1) := by decide +kernel
theorem dX5_melt_10 : decode cX5_melt 10 = .ok (.invokevirtual 111, 3) := by decide +kernel
theorem dX5_melt_13 : decode cX5_melt 13 = .ok (.ifCond .ne 7, 3) := by decide +kernel
theorem dX5_melt_16 : decode cX5_melt 16 = .ok (.sipush (-1001), 3) := by decide +kernel
theorem dX5_melt_19 : decode cX5_melt 19 = .ok (.ireturn, 1) := by decide +kernel
theorem dX5_melt_20 : decode cX5_melt 20 = .ok (.iconst 0, 1) := by decide +kernel
theorem dX5_melt_21 : decode cX5_melt 21 = .ok (.istore_n 3, 1) := by decide +kernel
theorem dX5_melt_22 : decode cX5_melt 22 = .ok (.iconst 0, 1) := by decide +kernel
theorem dX5_melt_23 : decode cX5_melt 23 = .ok (.istore 4, 2) := by decide +kernel
theorem dX5_melt_25 : decode cX5_melt 25 = .ok (.iload 4, 2) := by decide +kernel
theorem dX5_melt_27 : decode cX5_melt 27 = .ok (.iconst 3, 1) := by decide +kernel
theorem dX5_melt_28 : decode cX5_melt 28 = .ok (.if_icmp .ge 42, 3) := by decide +kernel
theorem dX5_melt_31 : decode cX5_melt 31 = .ok (.iload_n 3, 1) := by decide +kernel
theorem dX5_melt_32 : decode cX5_melt 32 = .ok (.aload_n 0, 1) := by decide +kernel
theorem dX5_melt_33 : decode cX5_melt 33 = .ok (.getfield 39, 3) := by decide +kernel
theorem dX5_melt_36 : decode cX5_melt 36 = .ok (.iconst 3, 1) := by decide +kernel
theorem dX5_melt_37 : decode cX5_melt 37 = .ok (.iload_n 1, 1) := by decide +kernel
theorem dX5_melt_38 : decode cX5_melt 38 = .ok (.imul, 1) := by decide +kernel
theorem dX5_melt_39 : decode cX5_melt 39 = .ok (.iload 4, 2) := by decide +kernel
theorem dX5_melt_41 : decode cX5_melt 41 = .ok (.iadd, 1) := by decide +kernel
theorem dX5_melt_42 : decode cX5_melt 42 = .ok (.iaload, 1) := by decide +kernel
theorem dX5_melt_43 : decode cX5_melt 43 = .ok (.aload_n 0, 1) := by decide +kernel
theorem dX5_melt_44 : decode cX5_melt 44 = .ok (.getfield 39, 3) := by decide +kernel
theorem dX5_melt_47 : decode cX5_melt 47 = .ok (.iconst 3, 1) := by decide +kernel
theorem dX5_melt_48 : decode cX5_melt 48 = .ok (.iload_n 2, 1) := by decide +kernel
theorem dX5_melt_49 : decode cX5_melt 49 = .ok (.imul, 1) := by decide +kernel
theorem dX5_melt_50 : decode cX5_melt 50 = .ok (.iload 4, 2) := by decide +kernel
theorem dX5_melt_52 : decode cX5_melt 52 = .ok (.iadd, 1) := by decide +kernel
theorem dX5_melt_53 : decode cX5_melt 53 = .ok (.iaload, 1) := by decide +kernel
theorem dX5_melt_54 : decode cX5_melt 54 = .ok (.if_icmp .ne 7, 3) := by decide +kernel
theorem dX5_melt_57 : decode cX5_melt 57 = .ok (.iconst 1, 1) := by decide +kernel
theorem dX5_melt_58 : decode cX5_melt 58 = .ok (.goto 4, 3) := by decide +kernel
theorem dX5_melt_61 : decode cX5_melt 61 = .ok (.iconst 0, 1) := by decide +kernel
theorem dX5_melt_62 : decode cX5_melt 62 = .ok (.iadd, 1) := by decide +kernel
theorem dX5_melt_63 : decode cX5_melt 63 = .ok (.istore_n 3, 1) := by decide +kernel
theorem dX5_melt_64 : decode cX5_melt 64 = .ok (.iinc 4 1, 3) := by decide +kernel
theorem dX5_melt_67 : decode cX5_melt 67 = .ok (.goto (-42), 3) := by decide +kernel
theorem dX5_melt_70 : decode cX5_melt 70 = .ok (.iload_n 1, 1) := by decide +kernel
theorem dX5_melt_71 : decode cX5_melt 71 = .ok (.iload_n 2, 1) := by decide +kernel
theorem dX5_melt_72 : decode cX5_melt 72 = .ok (.if_icmp .eq 57, 3) := by decide +kernel
theorem dX5_melt_75 : decode cX5_melt 75 = .ok (.aload_n 0, 1) := by decide +kernel
theorem dX5_melt_76 : decode cX5_melt 76 = .ok (.iload_n 1, 1) := by decide +kernel
theorem dX5_melt_77 : decode cX5_melt 77 = .ok (.invokevirtual 115, 3) := by decide +kernel
theorem dX5_melt_80 : decode cX5_melt 80 = .ok (.ifCond .eq 49, 3) := by decide +kernel
theorem dX5_melt_83 : decode cX5_melt 83 = .ok (.aload_n 0, 1) := by decide +kernel
theorem dX5_melt_84 : decode cX5_melt 84 = .ok (.iload_n 2, 1) := by decide +kernel
theorem dX5_melt_85 : decode cX5_melt 85 = .ok (.invokevirtual 115, 3) := by decide +kernel
theorem dX5_melt_88 : decode cX5_melt 88 = .ok (.ifCond .eq 41, 3) := by decide +kernel
theorem dX5_melt_91 : decode cX5_melt 91 = .ok (.aload_n 0, 1) := by decide +kernel
theorem dX5_melt_92 : decode cX5_melt 92 = .ok (.getfield 36, 3) := by decide +kernel
theorem dX5_melt_95 : decode cX5_melt 95 = .ok (.iload_n 1, 1) := by decide +kernel
theorem dX5_melt_96 : decode cX5_melt 96 = .ok (.iaload, 1) := by decide +kernel
theorem dX5_melt_97 : decode cX5_melt 97 = .ok (.aload_n 0, 1) := by decide +kernel
theorem dX5_melt_98 : decode cX5_melt 98 = .ok (.getfield 36, 3) := by decide +kernel
theorem dX5_melt_101 : decode cX5_melt 101 = .ok (.iload_n 2, 1) := by decide +kernel
theorem dX5_melt_102 : decode cX5_melt 102 = .ok (.iaload, 1) := by decide +kernel
theorem dX5_melt_103 : decode cX5_melt 103 = .ok (.if_icmp .ne 26, 3) := by decide +kernel
theorem dX5_melt_106 : decode cX5_melt 106 = .ok (.iload_n 3, 1) := by decide +kernel
theorem dX5_melt_107 : decode cX5_melt 107 = .ok (.iconst 2, 1) := by decide +kernel
theorem dX5_melt_108 : decode cX5_melt 108 = .ok (.if_icmp .ge 25, 3) := by decide +kernel
theorem dX5_melt_111 : decode cX5_melt 111 = .ok (.aload_n 0, 1) := by decide +kernel
theorem dX5_melt_112 : decode cX5_melt 112 = .ok (.iload_n 1, 1) := by decide +kernel
theorem dX5_melt_113 : decode cX5_melt 113 = .ok (.iload_n 2, 1) := by decide +kernel
theorem dX5_melt_114 : decode cX5_melt 114 = .ok (.invokevirtual 138, 3) := by decide +kernel
theorem dX5_melt_117 : decode cX5_melt 117 = .ok (.ifCond .ne 16, 3) := by decide +kernel
theorem dX5_melt_120 : decode cX5_melt 120 = .ok (.aload_n 0, 1) := by decide +kernel
theorem dX5_melt_121 : decode cX5_melt 121 = .ok (.iload_n 2, 1) := by decide +kernel
theorem dX5_melt_122 : decode cX5_melt 122 = .ok (.iload_n 1, 1) := by decide +kernel
theorem dX5_melt_123 : decode cX5_melt 123 = .ok (.invokevirtual 138, 3) := by decide +kernel
theorem dX5_melt_126 : decode cX5_melt 126 = .ok (.ifCond .ne 7, 3) := by decide +kernel
theorem dX5_melt_129 : decode cX5_melt 129 = .ok (.sipush (-1003), 3) := by decide +kernel
theorem dX5_melt_132 : decode cX5_melt 132 = .ok (.ireturn, 1) := by decide +kernel
theorem dX5_melt_133 : decode cX5_melt 133 = .ok (.aload_n 0, 1) := by decide +kernel
theorem dX5_melt_134 : decode cX5_melt 134 = .ok (.getfield 32, 3) := by decide +kernel
theorem dX5_melt_137 : decode cX5_melt 137 = .ok (.iload_n 1, 1) := by decide +kernel
theorem dX5_melt_138 : decode cX5_melt 138 = .ok (.dup2, 1) := by decide +kernel
theorem dX5_melt_139 : decode cX5_melt 139 = .ok (.laload, 1) := by decide +kernel
theorem dX5_melt_140 : decode cX5_melt 140 = .ok (.aload_n 0, 1) := by decide +kernel
theorem dX5_melt_141 : decode cX5_melt 141 = .ok (.getfield 32, 3) := by decide +kernel
theorem dX5_melt_144 : decode cX5_melt 144 = .ok (.iload_n 2, 1) := by decide +kernel
theorem dX5_melt_145 : decode cX5_melt 145 = .ok (.laload, 1) := by decide +kernel
theorem dX5_melt_146 : decode cX5_melt 146 = .ok (.lor, 1) := by decide +kernel
theorem dX5_melt_147 : decode cX5_melt 147 = .ok (.lastore, 1) := by decide +kernel
theorem dX5_melt_148 : decode cX5_melt 148 = .ok (.aload_n 0, 1) := by decide +kernel
theorem dX5_melt_149 : decode cX5_melt 149 = .ok (.getfield 42, 3) := by decide +kernel
theorem dX5_melt_152 : decode cX5_melt 152 = .ok (.iload_n 1, 1) := by decide +kernel
theorem dX5_melt_153 : decode cX5_melt 153 = .ok (.dup2, 1) := by decide +kernel
theorem dX5_melt_154 : decode cX5_melt 154 = .ok (.iaload, 1) := by decide +kernel
theorem dX5_melt_155 : decode cX5_melt 155 = .ok (.aload_n 0, 1) := by decide +kernel
theorem dX5_melt_156 : decode cX5_melt 156 = .ok (.getfield 42, 3) := by decide +kernel
theorem dX5_melt_159 : decode cX5_melt 159 = .ok (.iload_n 2, 1) := by decide +kernel
theorem dX5_melt_160 : decode cX5_melt 160 = .ok (.iaload, 1) := by decide +kernel
theorem dX5_melt_161 : decode cX5_melt 161 = .ok (.ior, 1) := by decide +kernel
theorem dX5_melt_162 : decode cX5_melt 162 = .ok (.iastore, 1) := by decide +kernel
theorem dX5_melt_163 : decode cX5_melt 163 = .ok (.aload_n 0, 1) := by decide +kernel
theorem dX5_melt_164 : decode cX5_melt 164 = .ok (.getfield 45, 3) := by decide +kernel
theorem dX5_melt_167 : decode cX5_melt 167 = .ok (.iload_n 1, 1) := by decide +kernel
theorem dX5_melt_168 : decode cX5_melt 168 = .ok (.aload_n 0, 1) := by decide +kernel
theorem dX5_melt_169 : decode cX5_melt 169 = .ok (.getfield 45, 3) := by decide +kernel
theorem dX5_melt_172 : decode cX5_melt 172 = .ok (.iload_n 2, 1) := by decide +kernel
theorem dX5_melt_173 : decode cX5_melt 173 = .ok (.iaload, 1) := by decide +kernel
theorem dX5_melt_174 : decode cX5_melt 174 = .ok (.aload_n 0, 1) := by decide +kernel
theorem dX5_melt_175 : decode cX5_melt 175 = .ok (.getfield 45, 3) := by decide +kernel
theorem dX5_melt_178 : decode cX5_melt 178 = .ok (.iload_n 1, 1) := by decide +kernel
theorem dX5_melt_179 : decode cX5_melt 179 = .ok (.iaload, 1) := by decide +kernel
theorem dX5_melt_180 : decode cX5_melt 180 = .ok (.if_icmp .ge 12, 3) := by decide +kernel
theorem dX5_melt_183 : decode cX5_melt 183 = .ok (.aload_n 0, 1) := by decide +kernel
theorem dX5_melt_184 : decode cX5_melt 184 = .ok (.getfield 45, 3) := by decide +kernel
theorem dX5_melt_187 : decode cX5_melt 187 = .ok (.iload_n 2, 1) := by decide +kernel
theorem dX5_melt_188 : decode cX5_melt 188 = .ok (.iaload, 1) := by decide +kernel
theorem dX5_melt_189 : decode cX5_melt 189 = .ok (.goto 9, 3) := by decide +kernel
theorem dX5_melt_192 : decode cX5_melt 192 = .ok (.aload_n 0, 1) := by decide +kernel
theorem dX5_melt_193 : decode cX5_melt 193 = .ok (.getfield 45, 3) := by decide +kernel
theorem dX5_melt_196 : decode cX5_melt 196 = .ok (.iload_n 1, 1) := by decide +kernel
theorem dX5_melt_197 : decode cX5_melt 197 = .ok (.iaload, 1) := by decide +kernel
theorem dX5_melt_198 : decode cX5_melt 198 = .ok (.iastore, 1) := by decide +kernel
theorem dX5_melt_199 : decode cX5_melt 199 = .ok (.aload_n 0, 1) := by decide +kernel
theorem dX5_melt_200 : decode cX5_melt 200 = .ok (.getfield 48, 3) := by decide +kernel
theorem dX5_melt_203 : decode cX5_melt 203 = .ok (.iload_n 1, 1) := by decide +kernel
theorem dX5_melt_204 : decode cX5_melt 204 = .ok (.dup2, 1) := by decide +kernel
theorem dX5_melt_205 : decode cX5_melt 205 = .ok (.iaload, 1) := by decide +kernel
theorem dX5_melt_206 : decode cX5_melt 206 = .ok (.aload_n 0, 1) := by decide +kernel
theorem dX5_melt_207 : decode cX5_melt 207 = .ok (.getfield 48, 3) := by decide +kernel
theorem dX5_melt_210 : decode cX5_melt 210 = .ok (.iload_n 2, 1) := by decide +kernel
theorem dX5_melt_211 : decode cX5_melt 211 = .ok (.iaload, 1) := by decide +kernel
theorem dX5_melt_212 : decode cX5_melt 212 = .ok (.iadd, 1) := by decide +kernel
end
section
theorem dX5_melt_213 : decode cX5_melt 213 = .ok (.iastore, 1) := by decide +kernel
theorem dX5_melt_214 : decode cX5_melt 214 = .ok (.iconst 0, 1) := by decide +kernel
theorem dX5_melt_215 : decode cX5_melt 215 = .ok (.istore 4, 2) := by decide +kernel
theorem dX5_melt_217 : decode cX5_melt 217 = .ok (.iload 4, 2) := by decide +kernel
theorem dX5_melt_219 : decode cX5_melt 219 = .ok (.iconst 3, 1) := by decide +kernel
theorem dX5_melt_220 : decode cX5_melt 220 = .ok (.if_icmp .ge 34, 3) := by decide +kernel
theorem dX5_melt_223 : decode cX5_melt 223 = .ok (.aload_n 0, 1) := by decide +kernel
theorem dX5_melt_224 : decode cX5_melt 224 = .ok (.getfield 39, 3) := by decide +kernel
theorem dX5_melt_227 : decode cX5_melt 227 = .ok (.iconst 3, 1) := by decide +kernel
theorem dX5_melt_228 : decode cX5_melt 228 = .ok (.iload_n 1, 1) := by decide +kernel
theorem dX5_melt_229 : decode cX5_melt 229 = .ok (.imul, 1) := by decide +kernel
theorem dX5_melt_230 : decode cX5_melt 230 = .ok (.iload 4, 2) := by decide +kernel
theorem dX5_melt_232 : decode cX5_melt 232 = .ok (.iadd, 1) := by decide +kernel
theorem dX5_melt_233 : decode cX5_melt 233 = .ok (.dup2, 1) := by decide +kernel
theorem dX5_melt_234 : decode cX5_melt 234 = .ok (.iaload, 1) := by decide +kernel
theorem dX5_melt_235 : decode cX5_melt 235 = .ok (.aload_n 0, 1) := by decide +kernel
theorem dX5_melt_236 : decode cX5_melt 236 = .ok (.getfield 39, 3) := by decide +kernel
theorem dX5_melt_239 : decode cX5_melt 239 = .ok (.iconst 3, 1) := by decide +kernel
theorem dX5_melt_240 : decode cX5_melt 240 = .ok (.iload_n 2, 1) := by decide +kernel
theorem dX5_melt_241 : decode cX5_melt 241 = .ok (.imul, 1) := by decide +kernel
theorem dX5_melt_242 : decode cX5_melt 242 = .ok (.iload 4, 2) := by decide +kernel
theorem dX5_melt_244 : decode cX5_melt 244 = .ok (.iadd, 1) := by decide +kernel
theorem dX5_melt_245 : decode cX5_melt 245 = .ok (.iaload, 1) := by decide +kernel
theorem dX5_melt_246 : decode cX5_melt 246 = .ok (.ior, 1) := by decide +kernel
theorem dX5_melt_247 : decode cX5_melt 247 = .ok (.iastore, 1) := by decide +kernel
theorem dX5_melt_248 : decode cX5_melt 248 = .ok (.iinc 4 1, 3) := by decide +kernel
theorem dX5_melt_251 : decode cX5_melt 251 = .ok (.goto (-34), 3) := by decide +kernel
theorem dX5_melt_254 : decode cX5_melt 254 = .ok (.aload_n 0, 1) := by decide +kernel
theorem dX5_melt_255 : decode cX5_melt 255 = .ok (.getfield 29, 3) := by decide +kernel
theorem dX5_melt_258 : decode cX5_melt 258 = .ok (.iload_n 2, 1) := by decide +kernel
theorem dX5_melt_259 : decode cX5_melt 259 = .ok (.iload_n 1, 1) := by decide +kernel
theorem dX5_melt_260 : decode cX5_melt 260 = .ok (.iastore, 1) := by decide +kernel
theorem dX5_melt_261 : decode cX5_melt 261 = .ok (.iconst 1, 1) := by decide +kernel
theorem dX5_melt_262 : decode cX5_melt 262 = .ok (.ireturn, 1) := by decide +kernel
theorem dX5_vote_0 : decode cX5_vote 0 = .ok (.aload_n 0, 1) := by decide +kernel
theorem dX5_vote_1 : decode cX5_vote 1 = .ok (.iload_n 1, 1) := by decide +kernel
theorem dX5_vote_2 : decode cX5_vote 2 = .ok (.invokevirtual 111, 3) := by decide +kernel
theorem dX5_vote_5 : decode cX5_vote 5 = .ok (.ifCond .ne 7, 3) := by decide +kernel
theorem dX5_vote_8 : decode cX5_vote 8 = .ok (.sipush (-1001), 3) := by decide +kernel
theorem dX5_vote_11 : decode cX5_vote 11 = .ok (.ireturn, 1) := by decide +kernel
theorem dX5_vote_12 : decode cX5_vote 12 = .ok (.aload_n 0, 1) := by decide +kernel
theorem dX5_vote_13 : decode cX5_vote 13 = .ok (.getfield 29, 3) := by decide +kernel
theorem dX5_vote_16 : decode cX5_vote 16 = .ok (.iload_n 1, 1) := by decide +kernel
theorem dX5_vote_17 : decode cX5_vote 17 = .ok (.iaload, 1) := by decide +kernel
theorem dX5_vote_18 : decode cX5_vote 18 = .ok (.ifCond .lt 7, 3) := by decide +kernel
theorem dX5_vote_21 : decode cX5_vote 21 = .ok (.sipush (-1003), 3) := by decide +kernel
theorem dX5_vote_24 : decode cX5_vote 24 = .ok (.ireturn, 1) := by decide +kernel
theorem dX5_vote_25 : decode cX5_vote 25 = .ok (.aload_n 0, 1) := by decide +kernel
theorem dX5_vote_26 : decode cX5_vote 26 = .ok (.getfield 48, 3) := by decide +kernel
theorem dX5_vote_29 : decode cX5_vote 29 = .ok (.iload_n 1, 1) := by decide +kernel
theorem dX5_vote_30 : decode cX5_vote 30 = .ok (.dup2, 1) := by decide +kernel
theorem dX5_vote_31 : decode cX5_vote 31 = .ok (.iaload, 1) := by decide +kernel
theorem dX5_vote_32 : decode cX5_vote 32 = .ok (.iload_n 2, 1) := by decide +kernel
theorem dX5_vote_33 : decode cX5_vote 33 = .ok (.ifCond .eq 7, 3) := by decide +kernel
theorem dX5_vote_36 : decode cX5_vote 36 = .ok (.iconst 1, 1) := by decide +kernel
theorem dX5_vote_37 : decode cX5_vote 37 = .ok (.goto 4, 3) := by decide +kernel
theorem dX5_vote_40 : decode cX5_vote 40 = .ok (.iconst (-1), 1) := by decide +kernel
theorem dX5_vote_41 : decode cX5_vote 41 = .ok (.iadd, 1) := by decide +kernel
theorem dX5_vote_42 : decode cX5_vote 42 = .ok (.iastore, 1) := by decide +kernel
theorem dX5_vote_43 : decode cX5_vote 43 = .ok (.aload_n 0, 1) := by decide +kernel
theorem dX5_vote_44 : decode cX5_vote 44 = .ok (.getfield 48, 3) := by decide +kernel
theorem dX5_vote_47 : decode cX5_vote 47 = .ok (.iload_n 1, 1) := by decide +kernel
theorem dX5_vote_48 : decode cX5_vote 48 = .ok (.iaload, 1) := by decide +kernel
theorem dX5_vote_49 : decode cX5_vote 49 = .ok (.ireturn, 1) := by decide +kernel
theorem dX5_partMany_0 : decode cX5_partMany 0 = .ok (.iconst 0, 1) := by decide +kernel
theorem dX5_partMany_1 : decode cX5_partMany 1 = .ok (.istore_n 2, 1) := by decide +kernel
theorem dX5_partMany_2 : decode cX5_partMany 2 = .ok (.iconst 0, 1) := by decide +kernel
theorem dX5_partMany_3 : decode cX5_partMany 3 = .ok (.istore_n 3, 1) := by decide +kernel
theorem dX5_partMany_4 : decode cX5_partMany 4 = .ok (.iload_n 3, 1) := by decide +kernel
theorem dX5_partMany_5 : decode cX5_partMany 5 = .ok (.iconst 4, 1) := by decide +kernel
theorem dX5_partMany_6 : decode cX5_partMany 6 = .ok (.if_icmp .ge 30, 3) := by decide +kernel
theorem dX5_partMany_9 : decode cX5_partMany 9 = .ok (.iload_n 2, 1) := by decide +kernel
theorem dX5_partMany_10 : decode cX5_partMany 10 = .ok (.aload_n 0, 1) := by decide +kernel
theorem dX5_partMany_11 : decode cX5_partMany 11 = .ok (.getfield 51, 3) := by decide +kernel
theorem dX5_partMany_14 : decode cX5_partMany 14 = .ok (.iconst 4, 1) := by decide +kernel
theorem dX5_partMany_15 : decode cX5_partMany 15 = .ok (.iload_n 1, 1) := by decide +kernel
theorem dX5_partMany_16 : decode cX5_partMany 16 = .ok (.imul, 1) := by decide +kernel
theorem dX5_partMany_17 : decode cX5_partMany 17 = .ok (.iload_n 3, 1) := by decide +kernel
theorem dX5_partMany_18 : decode cX5_partMany 18 = .ok (.iadd, 1) := by decide +kernel
theorem dX5_partMany_19 : decode cX5_partMany 19 = .ok (.iaload, 1) := by decide +kernel
theorem dX5_partMany_20 : decode cX5_partMany 20 = .ok (.ifCond .lt 7, 3) := by decide +kernel
theorem dX5_partMany_23 : decode cX5_partMany 23 = .ok (.iconst 1, 1) := by decide +kernel
theorem dX5_partMany_24 : decode cX5_partMany 24 = .ok (.goto 4, 3) := by decide +kernel
theorem dX5_partMany_27 : decode cX5_partMany 27 = .ok (.iconst 0, 1) := by decide +kernel
theorem dX5_partMany_28 : decode cX5_partMany 28 = .ok (.iadd, 1) := by decide +kernel
theorem dX5_partMany_29 : decode cX5_partMany 29 = .ok (.istore_n 2, 1) := by decide +kernel
theorem dX5_partMany_30 : decode cX5_partMany 30 = .ok (.iinc 3 1, 3) := by decide +kernel
theorem dX5_partMany_33 : decode cX5_partMany 33 = .ok (.goto (-29), 3) := by decide +kernel
theorem dX5_partMany_36 : decode cX5_partMany 36 = .ok (.iload_n 2, 1) := by decide +kernel
theorem dX5_partMany_37 : decode cX5_partMany 37 = .ok (.ireturn, 1) := by decide +kernel
theorem dX5_told_0 : decode cX5_told 0 = .ok (.aload_n 0, 1) := by decide +kernel
theorem dX5_told_1 : decode cX5_told 1 = .ok (.iload_n 1, 1) := by decide +kernel
theorem dX5_told_2 : decode cX5_told 2 = .ok (.invokevirtual 111, 3) := by decide +kernel
theorem dX5_told_5 : decode cX5_told 5 = .ok (.ifCond .ne 7, 3) := by decide +kernel
theorem dX5_told_8 : decode cX5_told 8 = .ok (.sipush (-1001), 3) := by decide +kernel
theorem dX5_told_11 : decode cX5_told 11 = .ok (.ireturn, 1) := by decide +kernel
theorem dX5_told_12 : decode cX5_told 12 = .ok (.iload_n 2, 1) := by decide +kernel
theorem dX5_told_13 : decode cX5_told 13 = .ok (.i2l, 1) := by decide +kernel
theorem dX5_told_14 : decode cX5_told 14 = .ok (.lconst 0, 1) := by decide +kernel
theorem dX5_told_15 : decode cX5_told 15 = .ok (.ldc2_w 141, 3) := by decide +kernel
theorem dX5_told_18 : decode cX5_told 18 = .ok (.invokestatic 82, 3) := by decide +kernel
theorem dX5_told_21 : decode cX5_told 21 = .ok (.ifCond .ne 7, 3) := by decide +kernel
theorem dX5_told_24 : decode cX5_told 24 = .ok (.sipush (-1002), 3) := by decide +kernel
theorem dX5_told_27 : decode cX5_told 27 = .ok (.ireturn, 1) := by decide +kernel
theorem dX5_told_28 : decode cX5_told 28 = .ok (.aload_n 0, 1) := by decide +kernel
theorem dX5_told_29 : decode cX5_told 29 = .ok (.invokevirtual 118, 3) := by decide +kernel
theorem dX5_told_32 : decode cX5_told 32 = .ok (.aload_n 0, 1) := by decide +kernel
theorem dX5_told_33 : decode cX5_told 33 = .ok (.getfield 29, 3) := by decide +kernel
theorem dX5_told_36 : decode cX5_told 36 = .ok (.iload_n 1, 1) := by decide +kernel
theorem dX5_told_37 : decode cX5_told 37 = .ok (.iaload, 1) := by decide +kernel
theorem dX5_told_38 : decode cX5_told 38 = .ok (.ifCond .lt 7, 3) := by decide +kernel
theorem dX5_told_41 : decode cX5_told 41 = .ok (.iconst 1, 1) := by decide +kernel
theorem dX5_told_42 : decode cX5_told 42 = .ok (.goto 4, 3) := by decide +kernel
theorem dX5_told_45 : decode cX5_told 45 = .ok (.iconst 0, 1) := by decide +kernel
theorem dX5_told_46 : decode cX5_told 46 = .ok (.istore_n 3, 1) := by decide +kernel
theorem dX5_told_47 : decode cX5_told 47 = .ok (.iload_n 2, 1) := by decide +kernel
theorem dX5_told_48 : decode cX5_told 48 = .ok (.tableswitch 136 0 9 #[56, 71, 77, 84, 84, 84, 97, 104, 123, 130], 56) := by decide +kernel
theorem dX5_told_104 : decode cX5_told 104 = .ok (.iload_n 3, 1) := by decide +kernel
theorem dX5_told_105 : decode cX5_told 105 = .ok (.ifCond .eq 7, 3) := by decide +kernel
theorem dX5_told_108 : decode cX5_told 108 = .ok (.iconst 2, 1) := by decide +kernel
theorem dX5_told_109 : decode cX5_told 109 = .ok (.goto 9, 3) := by decide +kernel
theorem dX5_told_112 : decode cX5_told 112 = .ok (.aload_n 0, 1) := by decide +kernel
theorem dX5_told_113 : decode cX5_told 113 = .ok (.getfield 26, 3) := by decide +kernel
theorem dX5_told_116 : decode cX5_told 116 = .ok (.iload_n 1, 1) := by decide +kernel
theorem dX5_told_117 : decode cX5_told 117 = .ok (.iaload, 1) := by decide +kernel
theorem dX5_told_118 : decode cX5_told 118 = .ok (.ireturn, 1) := by decide +kernel
theorem dX5_told_119 : decode cX5_told 119 = .ok (.aload_n 0, 1) := by decide +kernel
theorem dX5_told_120 : decode cX5_told 120 = .ok (.iload_n 1, 1) := by decide +kernel
theorem dX5_told_121 : decode cX5_told 121 = .ok (.invokevirtual 121, 3) := by decide +kernel
theorem dX5_told_124 : decode cX5_told 124 = .ok (.ireturn, 1) := by decide +kernel
theorem dX5_told_125 : decode cX5_told 125 = .ok (.aload_n 0, 1) := by decide +kernel
theorem dX5_told_126 : decode cX5_told 126 = .ok (.getfield 36, 3) := by decide +kernel
theorem dX5_told_129 : decode cX5_told 129 = .ok (.iload_n 1, 1) := by decide +kernel
theorem dX5_told_130 : decode cX5_told 130 = .ok (.iaload, 1) := by decide +kernel
theorem dX5_told_131 : decode cX5_told 131 = .ok (.ireturn, 1) := by decide +kernel
theorem dX5_told_132 : decode cX5_told 132 = .ok (.aload_n 0, 1) := by decide +kernel
theorem dX5_told_133 : decode cX5_told 133 = .ok (.getfield 67, 3) := by decide +kernel
theorem dX5_told_136 : decode cX5_told 136 = .ok (.iconst 3, 1) := by decide +kernel
theorem dX5_told_137 : decode cX5_told 137 = .ok (.iload_n 1, 1) := by decide +kernel
theorem dX5_told_138 : decode cX5_told 138 = .ok (.imul, 1) := by decide +kernel
theorem dX5_told_139 : decode cX5_told 139 = .ok (.iload_n 2, 1) := by decide +kernel
theorem dX5_told_140 : decode cX5_told 140 = .ok (.iadd, 1) := by decide +kernel
theorem dX5_told_141 : decode cX5_told 141 = .ok (.iconst 3, 1) := by decide +kernel
theorem dX5_told_142 : decode cX5_told 142 = .ok (.isub, 1) := by decide +kernel
theorem dX5_told_143 : decode cX5_told 143 = .ok (.iaload, 1) := by decide +kernel
theorem dX5_told_144 : decode cX5_told 144 = .ok (.ireturn, 1) := by decide +kernel
theorem dX5_told_145 : decode cX5_told 145 = .ok (.aload_n 0, 1) := by decide +kernel
theorem dX5_told_146 : decode cX5_told 146 = .ok (.getfield 70, 3) := by decide +kernel
theorem dX5_told_149 : decode cX5_told 149 = .ok (.iload_n 1, 1) := by decide +kernel
theorem dX5_told_150 : decode cX5_told 150 = .ok (.iaload, 1) := by decide +kernel
theorem dX5_told_151 : decode cX5_told 151 = .ok (.ireturn, 1) := by decide +kernel
theorem dX5_told_152 : decode cX5_told 152 = .ok (.iload_n 3, 1) := by decide +kernel
theorem dX5_told_153 : decode cX5_told 153 = .ok (.ifCond .ne 16, 3) := by decide +kernel
theorem dX5_told_156 : decode cX5_told 156 = .ok (.aload_n 0, 1) := by decide +kernel
theorem dX5_told_157 : decode cX5_told 157 = .ok (.getfield 73, 3) := by decide +kernel
theorem dX5_told_160 : decode cX5_told 160 = .ok (.iload_n 1, 1) := by decide +kernel
theorem dX5_told_161 : decode cX5_told 161 = .ok (.baload, 1) := by decide +kernel
theorem dX5_told_162 : decode cX5_told 162 = .ok (.ifCond .eq 7, 3) := by decide +kernel
theorem dX5_told_165 : decode cX5_told 165 = .ok (.iconst 1, 1) := by decide +kernel
theorem dX5_told_166 : decode cX5_told 166 = .ok (.goto 4, 3) := by decide +kernel
theorem dX5_told_169 : decode cX5_told 169 = .ok (.iconst 0, 1) := by decide +kernel
theorem dX5_told_170 : decode cX5_told 170 = .ok (.ireturn, 1) := by decide +kernel
theorem dX5_told_171 : decode cX5_told 171 = .ok (.aload_n 0, 1) := by decide +kernel
theorem dX5_told_172 : decode cX5_told 172 = .ok (.getfield 48, 3) := by decide +kernel
theorem dX5_told_175 : decode cX5_told 175 = .ok (.iload_n 1, 1) := by decide +kernel
theorem dX5_told_176 : decode cX5_told 176 = .ok (.iaload, 1) := by decide +kernel
theorem dX5_told_177 : decode cX5_told 177 = .ok (.ireturn, 1) := by decide +kernel
theorem dX5_told_178 : decode cX5_told 178 = .ok (.aload_n 0, 1) := by decide +kernel
theorem dX5_told_179 : decode cX5_told 179 = .ok (.iload_n 1, 1) := by decide +kernel
theorem dX5_told_180 : decode cX5_told 180 = .ok (.invokevirtual 143, 3) := by decide +kernel
theorem dX5_told_183 : decode cX5_told 183 = .ok (.ireturn, 1) := by decide +kernel
theorem dX5_told_184 : decode cX5_told 184 = .ok (.aload_n 0, 1) := by decide +kernel
theorem dX5_told_185 : decode cX5_told 185 = .ok (.getfield 51, 3) := by decide +kernel
theorem dX5_told_188 : decode cX5_told 188 = .ok (.iconst 4, 1) := by decide +kernel
theorem dX5_told_189 : decode cX5_told 189 = .ok (.iload_n 1, 1) := by decide +kernel
theorem dX5_told_190 : decode cX5_told 190 = .ok (.imul, 1) := by decide +kernel
theorem dX5_told_191 : decode cX5_told 191 = .ok (.iload_n 2, 1) := by decide +kernel
theorem dX5_told_192 : decode cX5_told 192 = .ok (.iadd, 1) := by decide +kernel
theorem dX5_told_193 : decode cX5_told 193 = .ok (.bipush 10, 2) := by decide +kernel
theorem dX5_told_195 : decode cX5_told 195 = .ok (.isub, 1) := by decide +kernel
theorem dX5_told_196 : decode cX5_told 196 = .ok (.iaload, 1) := by decide +kernel
theorem dX5_told_197 : decode cX5_told 197 = .ok (.ifCond .ge 7, 3) := by decide +kernel
theorem dX5_told_200 : decode cX5_told 200 = .ok (.iconst (-1), 1) := by decide +kernel
theorem dX5_told_201 : decode cX5_told 201 = .ok (.goto 20, 3) := by decide +kernel
theorem dX5_told_204 : decode cX5_told 204 = .ok (.aload_n 0, 1) := by decide +kernel
theorem dX5_told_205 : decode cX5_told 205 = .ok (.aload_n 0, 1) := by decide +kernel
theorem dX5_told_206 : decode cX5_told 206 = .ok (.getfield 51, 3) := by decide +kernel
theorem dX5_told_209 : decode cX5_told 209 = .ok (.iconst 4, 1) := by decide +kernel
theorem dX5_told_210 : decode cX5_told 210 = .ok (.iload_n 1, 1) := by decide +kernel
theorem dX5_told_211 : decode cX5_told 211 = .ok (.imul, 1) := by decide +kernel
theorem dX5_told_212 : decode cX5_told 212 = .ok (.iload_n 2, 1) := by decide +kernel
theorem dX5_told_213 : decode cX5_told 213 = .ok (.iadd, 1) := by decide +kernel
theorem dX5_told_214 : decode cX5_told 214 = .ok (.bipush 10, 2) := by decide +kernel
theorem dX5_told_216 : decode cX5_told 216 = .ok (.isub, 1) := by decide +kernel
theorem dX5_told_217 : decode cX5_told 217 = .ok (.iaload, 1) := by decide +kernel
theorem dX5_told_218 : decode cX5_told 218 = .ok (.invokevirtual 121, 3) := by decide +kernel
theorem dX5_told_221 : decode cX5_told 221 = .ok (.ireturn, 1) := by decide +kernel
theorem dX5_words_0 : decode cX5_words 0 = .ok (.aload_n 0, 1) := by decide +kernel
theorem dX5_words_1 : decode cX5_words 1 = .ok (.iload_n 1, 1) := by decide +kernel
theorem dX5_words_2 : decode cX5_words 2 = .ok (.invokevirtual 111, 3) := by decide +kernel
theorem dX5_words_5 : decode cX5_words 5 = .ok (.ifCond .ne 7, 3) := by decide +kernel
theorem dX5_words_8 : decode cX5_words 8 = .ok (.ldc2_w 146, 3) := by decide +kernel
theorem dX5_words_11 : decode cX5_words 11 = .ok (.lreturn, 1) := by decide +kernel
theorem dX5_words_12 : decode cX5_words 12 = .ok (.aload_n 0, 1) := by decide +kernel
theorem dX5_words_13 : decode cX5_words 13 = .ok (.invokevirtual 118, 3) := by decide +kernel
theorem dX5_words_16 : decode cX5_words 16 = .ok (.aload_n 0, 1) := by decide +kernel
theorem dX5_words_17 : decode cX5_words 17 = .ok (.getfield 64, 3) := by decide +kernel
theorem dX5_words_20 : decode cX5_words 20 = .ok (.iload_n 1, 1) := by decide +kernel
theorem dX5_words_21 : decode cX5_words 21 = .ok (.laload, 1) := by decide +kernel
theorem dX5_words_22 : decode cX5_words 22 = .ok (.lreturn, 1) := by decide +kernel
theorem dX5_isValue_0 : decode cX5_isValue 0 = .ok (.iload_n 1, 1) := by decide +kernel
theorem dX5_isValue_1 : decode cX5_isValue 1 = .ok (.i2l, 1) := by decide +kernel
theorem dX5_isValue_2 : decode cX5_isValue 2 = .ok (.lconst 0, 1) := by decide +kernel
theorem dX5_isValue_3 : decode cX5_isValue 3 = .ok (.iload_n 0, 1) := by decide +kernel
theorem dX5_isValue_4 : decode cX5_isValue 4 = .ok (.ifCond .ne 9, 3) := by decide +kernel
theorem dX5_isValue_7 : decode cX5_isValue 7 = .ok (.ldc2_w 148, 3) := by decide +kernel
theorem dX5_isValue_10 : decode cX5_isValue 10 = .ok (.goto 17, 3) := by decide +kernel
theorem dX5_isValue_13 : decode cX5_isValue 13 = .ok (.iload_n 0, 1) := by decide +kernel
theorem dX5_isValue_14 : decode cX5_isValue 14 = .ok (.iconst 1, 1) := by decide +kernel
theorem dX5_isValue_15 : decode cX5_isValue 15 = .ok (.if_icmp .ne 9, 3) := by decide +kernel
theorem dX5_isValue_18 : decode cX5_isValue 18 = .ok (.ldc2_w 88, 3) := by decide +kernel
theorem dX5_isValue_21 : decode cX5_isValue 21 = .ok (.goto 6, 3) := by decide +kernel
theorem dX5_isValue_24 : decode cX5_isValue 24 = .ok (.ldc2_w 150, 3) := by decide +kernel
theorem dX5_isValue_27 : decode cX5_isValue 27 = .ok (.invokestatic 82, 3) := by decide +kernel
theorem dX5_isValue_30 : decode cX5_isValue 30 = .ok (.ireturn, 1) := by decide +kernel
theorem dX5_holds_0 : decode cX5_holds 0 = .ok (.aload_n 0, 1) := by decide +kernel
theorem dX5_holds_1 : decode cX5_holds 1 = .ok (.iload_n 1, 1) := by decide +kernel
theorem dX5_holds_2 : decode cX5_holds 2 = .ok (.invokevirtual 111, 3) := by decide +kernel
theorem dX5_holds_5 : decode cX5_holds 5 = .ok (.ifCond .ne 7, 3) := by decide +kernel
theorem dX5_holds_8 : decode cX5_holds 8 = .ok (.sipush (-1001), 3) := by decide +kernel
theorem dX5_holds_11 : decode cX5_holds 11 = .ok (.ireturn, 1) := by decide +kernel
theorem dX5_holds_12 : decode cX5_holds 12 = .ok (.iconst 0, 1) := by decide +kernel
theorem dX5_holds_13 : decode cX5_holds 13 = .ok (.iload_n 2, 1) := by decide +kernel
theorem dX5_holds_14 : decode cX5_holds 14 = .ok (.invokestatic 152, 3) := by decide +kernel
theorem dX5_holds_17 : decode cX5_holds 17 = .ok (.ifCond .eq 20, 3) := by decide +kernel
theorem dX5_holds_20 : decode cX5_holds 20 = .ok (.iconst 1, 1) := by decide +kernel
theorem dX5_holds_21 : decode cX5_holds 21 = .ok (.iload_n 3, 1) := by decide +kernel
theorem dX5_holds_22 : decode cX5_holds 22 = .ok (.invokestatic 152, 3) := by decide +kernel
theorem dX5_holds_25 : decode cX5_holds 25 = .ok (.ifCond .eq 12, 3) := by decide +kernel
theorem dX5_holds_28 : decode cX5_holds 28 = .ok (.iconst 2, 1) := by decide +kernel
theorem dX5_holds_29 : decode cX5_holds 29 = .ok (.iload 4, 2) := by decide +kernel
theorem dX5_holds_31 : decode cX5_holds 31 = .ok (.invokestatic 152, 3) := by decide +kernel
theorem dX5_holds_34 : decode cX5_holds 34 = .ok (.ifCond .ne 7, 3) := by decide +kernel
theorem dX5_holds_37 : decode cX5_holds 37 = .ok (.sipush (-1002), 3) := by decide +kernel
theorem dX5_holds_40 : decode cX5_holds 40 = .ok (.ireturn, 1) := by decide +kernel
theorem dX5_holds_41 : decode cX5_holds 41 = .ok (.aload_n 0, 1) := by decide +kernel
theorem dX5_holds_42 : decode cX5_holds 42 = .ok (.invokevirtual 118, 3) := by decide +kernel
theorem dX5_holds_45 : decode cX5_holds 45 = .ok (.aload_n 0, 1) := by decide +kernel
theorem dX5_holds_46 : decode cX5_holds 46 = .ok (.getfield 29, 3) := by decide +kernel
theorem dX5_holds_49 : decode cX5_holds 49 = .ok (.iload_n 1, 1) := by decide +kernel
theorem dX5_holds_50 : decode cX5_holds 50 = .ok (.iaload, 1) := by decide +kernel
theorem dX5_holds_51 : decode cX5_holds 51 = .ok (.ifCond .ge 60, 3) := by decide +kernel
theorem dX5_holds_54 : decode cX5_holds 54 = .ok (.aload_n 0, 1) := by decide +kernel
theorem dX5_holds_55 : decode cX5_holds 55 = .ok (.getfield 67, 3) := by decide +kernel
theorem dX5_holds_58 : decode cX5_holds 58 = .ok (.iconst 3, 1) := by decide +kernel
theorem dX5_holds_59 : decode cX5_holds 59 = .ok (.iload_n 1, 1) := by decide +kernel
theorem dX5_holds_60 : decode cX5_holds 60 = .ok (.imul, 1) := by decide +kernel
theorem dX5_holds_61 : decode cX5_holds 61 = .ok (.iaload, 1) := by decide +kernel
theorem dX5_holds_62 : decode cX5_holds 62 = .ok (.iload_n 2, 1) := by decide +kernel
theorem dX5_holds_63 : decode cX5_holds 63 = .ok (.ishr, 1) := by decide +kernel
theorem dX5_holds_64 : decode cX5_holds 64 = .ok (.iconst 1, 1) := by decide +kernel
theorem dX5_holds_65 : decode cX5_holds 65 = .ok (.iand, 1) := by decide +kernel
theorem dX5_holds_66 : decode cX5_holds 66 = .ok (.iconst 1, 1) := by decide +kernel
theorem dX5_holds_67 : decode cX5_holds 67 = .ok (.if_icmp .ne 44, 3) := by decide +kernel
theorem dX5_holds_70 : decode cX5_holds 70 = .ok (.aload_n 0, 1) := by decide +kernel
theorem dX5_holds_71 : decode cX5_holds 71 = .ok (.getfield 67, 3) := by decide +kernel
theorem dX5_holds_74 : decode cX5_holds 74 = .ok (.iconst 3, 1) := by decide +kernel
theorem dX5_holds_75 : decode cX5_holds 75 = .ok (.iload_n 1, 1) := by decide +kernel
theorem dX5_holds_76 : decode cX5_holds 76 = .ok (.imul, 1) := by decide +kernel
theorem dX5_holds_77 : decode cX5_holds 77 = .ok (.iconst 1, 1) := by decide +kernel
theorem dX5_holds_78 : decode cX5_holds 78 = .ok (.iadd, 1) := by decide +kernel
theorem dX5_holds_79 : decode cX5_holds 79 = .ok (.iaload, 1) := by decide +kernel
theorem dX5_holds_80 : decode cX5_holds 80 = .ok (.iload_n 3, 1) := by decide +kernel
theorem dX5_holds_81 : decode cX5_holds 81 = .ok (.ishr, 1) := by decide +kernel
theorem dX5_holds_82 : decode cX5_holds 82 = .ok (.iconst 1, 1) := by decide +kernel
theorem dX5_holds_83 : decode cX5_holds 83 = .ok (.iand, 1) := by decide +kernel
theorem dX5_holds_84 : decode cX5_holds 84 = .ok (.iconst 1, 1) := by decide +kernel
theorem dX5_holds_85 : decode cX5_holds 85 = .ok (.if_icmp .ne 26, 3) := by decide +kernel
theorem dX5_holds_88 : decode cX5_holds 88 = .ok (.aload_n 0, 1) := by decide +kernel
theorem dX5_holds_89 : decode cX5_holds 89 = .ok (.getfield 67, 3) := by decide +kernel
theorem dX5_holds_92 : decode cX5_holds 92 = .ok (.iconst 3, 1) := by decide +kernel
theorem dX5_holds_93 : decode cX5_holds 93 = .ok (.iload_n 1, 1) := by decide +kernel
theorem dX5_holds_94 : decode cX5_holds 94 = .ok (.imul, 1) := by decide +kernel
theorem dX5_holds_95 : decode cX5_holds 95 = .ok (.iconst 2, 1) := by decide +kernel
theorem dX5_holds_96 : decode cX5_holds 96 = .ok (.iadd, 1) := by decide +kernel
theorem dX5_holds_97 : decode cX5_holds 97 = .ok (.iaload, 1) := by decide +kernel
theorem dX5_holds_98 : decode cX5_holds 98 = .ok (.iload 4, 2) := by decide +kernel
theorem dX5_holds_100 : decode cX5_holds 100 = .ok (.ishr, 1) := by decide +kernel
theorem dX5_holds_101 : decode cX5_holds 101 = .ok (.iconst 1, 1) := by decide +kernel
theorem dX5_holds_102 : decode cX5_holds 102 = .ok (.iand, 1) := by decide +kernel
theorem dX5_holds_103 : decode cX5_holds 103 = .ok (.iconst 1, 1) := by decide +kernel
theorem dX5_holds_104 : decode cX5_holds 104 = .ok (.if_icmp .ne 7, 3) := by decide +kernel
theorem dX5_holds_107 : decode cX5_holds 107 = .ok (.iconst 1, 1) := by decide +kernel
theorem dX5_holds_108 : decode cX5_holds 108 = .ok (.goto 4, 3) := by decide +kernel
theorem dX5_holds_111 : decode cX5_holds 111 = .ok (.iconst 0, 1) := by decide +kernel
theorem dX5_holds_112 : decode cX5_holds 112 = .ok (.istore 5, 2) := by decide +kernel
theorem dX5_holds_114 : decode cX5_holds 114 = .ok (.iload 5, 2) := by decide +kernel
theorem dX5_holds_116 : decode cX5_holds 116 = .ok (.ifCond .eq 7, 3) := by decide +kernel
theorem dX5_holds_119 : decode cX5_holds 119 = .ok (.iconst 1, 1) := by decide +kernel
theorem dX5_holds_120 : decode cX5_holds 120 = .ok (.goto 4, 3) := by decide +kernel
theorem dX5_holds_123 : decode cX5_holds 123 = .ok (.iconst 0, 1) := by decide +kernel
theorem dX5_holds_124 : decode cX5_holds 124 = .ok (.ireturn, 1) := by decide +kernel
theorem dX5_far_0 : decode cX5_far 0 = .ok (.aload_n 0, 1) := by decide +kernel
theorem dX5_far_1 : decode cX5_far 1 = .ok (.lload_n 1, 1) := by decide +kernel
theorem dX5_far_2 : decode cX5_far 2 = .ok (.invokevirtual 155, 3) := by decide +kernel
theorem dX5_far_5 : decode cX5_far 5 = .ok (.aload_n 0, 1) := by decide +kernel
theorem dX5_far_6 : decode cX5_far 6 = .ok (.lload_n 3, 1) := by decide +kernel
theorem dX5_far_7 : decode cX5_far 7 = .ok (.invokevirtual 155, 3) := by decide +kernel
theorem dX5_far_10 : decode cX5_far 10 = .ok (.lxor, 1) := by decide +kernel
theorem dX5_far_11 : decode cX5_far 11 = .ok (.invokestatic 159, 3) := by decide +kernel
theorem dX5_far_14 : decode cX5_far 14 = .ok (.ireturn, 1) := by decide +kernel
theorem dX5_quarrels_0 : decode cX5_quarrels 0 = .ok (.aload_n 0, 1) := by decide +kernel
theorem dX5_quarrels_1 : decode cX5_quarrels 1 = .ok (.iload_n 1, 1) := by decide +kernel
theorem dX5_quarrels_2 : decode cX5_quarrels 2 = .ok (.invokevirtual 115, 3) := by decide +kernel
theorem dX5_quarrels_5 : decode cX5_quarrels 5 = .ok (.ifCond .eq 53, 3) := by decide +kernel
theorem dX5_quarrels_8 : decode cX5_quarrels 8 = .ok (.aload_n 0, 1) := by decide +kernel
theorem dX5_quarrels_9 : decode cX5_quarrels 9 = .ok (.iload_n 2, 1) := by decide +kernel
theorem dX5_quarrels_10 : decode cX5_quarrels 10 = .ok (.invokevirtual 115, 3) := by decide +kernel
theorem dX5_quarrels_13 : decode cX5_quarrels 13 = .ok (.ifCond .eq 45, 3) := by decide +kernel
theorem dX5_quarrels_16 : decode cX5_quarrels 16 = .ok (.aload_n 0, 1) := by decide +kernel
theorem dX5_quarrels_17 : decode cX5_quarrels 17 = .ok (.getfield 36, 3) := by decide +kernel
theorem dX5_quarrels_20 : decode cX5_quarrels 20 = .ok (.iload_n 1, 1) := by decide +kernel
theorem dX5_quarrels_21 : decode cX5_quarrels 21 = .ok (.iaload, 1) := by decide +kernel
theorem dX5_quarrels_22 : decode cX5_quarrels 22 = .ok (.aload_n 0, 1) := by decide +kernel
theorem dX5_quarrels_23 : decode cX5_quarrels 23 = .ok (.getfield 36, 3) := by decide +kernel
theorem dX5_quarrels_26 : decode cX5_quarrels 26 = .ok (.iload_n 2, 1) := by decide +kernel
theorem dX5_quarrels_27 : decode cX5_quarrels 27 = .ok (.iaload, 1) := by decide +kernel
theorem dX5_quarrels_28 : decode cX5_quarrels 28 = .ok (.if_icmp .eq 30, 3) := by decide +kernel
theorem dX5_quarrels_31 : decode cX5_quarrels 31 = .ok (.aload_n 0, 1) := by decide +kernel
theorem dX5_quarrels_32 : decode cX5_quarrels 32 = .ok (.aload_n 0, 1) := by decide +kernel
theorem dX5_quarrels_33 : decode cX5_quarrels 33 = .ok (.getfield 32, 3) := by decide +kernel
theorem dX5_quarrels_36 : decode cX5_quarrels 36 = .ok (.iload_n 1, 1) := by decide +kernel
theorem dX5_quarrels_37 : decode cX5_quarrels 37 = .ok (.laload, 1) := by decide +kernel
theorem dX5_quarrels_38 : decode cX5_quarrels 38 = .ok (.aload_n 0, 1) := by decide +kernel
theorem dX5_quarrels_39 : decode cX5_quarrels 39 = .ok (.getfield 32, 3) := by decide +kernel
theorem dX5_quarrels_42 : decode cX5_quarrels 42 = .ok (.iload_n 2, 1) := by decide +kernel
theorem dX5_quarrels_43 : decode cX5_quarrels 43 = .ok (.laload, 1) := by decide +kernel
theorem dX5_quarrels_44 : decode cX5_quarrels 44 = .ok (.invokevirtual 163, 3) := by decide +kernel
theorem dX5_quarrels_47 : decode cX5_quarrels 47 = .ok (.aload_n 0, 1) := by decide +kernel
theorem dX5_quarrels_48 : decode cX5_quarrels 48 = .ok (.getfield 19, 3) := by decide +kernel
theorem dX5_quarrels_51 : decode cX5_quarrels 51 = .ok (.if_icmp .gt 7, 3) := by decide +kernel
theorem dX5_quarrels_54 : decode cX5_quarrels 54 = .ok (.iconst 1, 1) := by decide +kernel
theorem dX5_quarrels_55 : decode cX5_quarrels 55 = .ok (.goto 4, 3) := by decide +kernel
theorem dX5_quarrels_58 : decode cX5_quarrels 58 = .ok (.iconst 0, 1) := by decide +kernel
theorem dX5_quarrels_59 : decode cX5_quarrels 59 = .ok (.istore_n 3, 1) := by decide +kernel
theorem dX5_quarrels_60 : decode cX5_quarrels 60 = .ok (.iconst 0, 1) := by decide +kernel
theorem dX5_quarrels_61 : decode cX5_quarrels 61 = .ok (.istore 4, 2) := by decide +kernel
theorem dX5_quarrels_63 : decode cX5_quarrels 63 = .ok (.iload 4, 2) := by decide +kernel
theorem dX5_quarrels_65 : decode cX5_quarrels 65 = .ok (.iconst 3, 1) := by decide +kernel
theorem dX5_quarrels_66 : decode cX5_quarrels 66 = .ok (.if_icmp .ge 45, 3) := by decide +kernel
theorem dX5_quarrels_69 : decode cX5_quarrels 69 = .ok (.iload_n 3, 1) := by decide +kernel
theorem dX5_quarrels_70 : decode cX5_quarrels 70 = .ok (.ifCond .eq 33, 3) := by decide +kernel
theorem dX5_quarrels_73 : decode cX5_quarrels 73 = .ok (.aload_n 0, 1) := by decide +kernel
theorem dX5_quarrels_74 : decode cX5_quarrels 74 = .ok (.getfield 39, 3) := by decide +kernel
theorem dX5_quarrels_77 : decode cX5_quarrels 77 = .ok (.iconst 3, 1) := by decide +kernel
theorem dX5_quarrels_78 : decode cX5_quarrels 78 = .ok (.iload_n 1, 1) := by decide +kernel
theorem dX5_quarrels_79 : decode cX5_quarrels 79 = .ok (.imul, 1) := by decide +kernel
theorem dX5_quarrels_80 : decode cX5_quarrels 80 = .ok (.iload 4, 2) := by decide +kernel
theorem dX5_quarrels_82 : decode cX5_quarrels 82 = .ok (.iadd, 1) := by decide +kernel
theorem dX5_quarrels_83 : decode cX5_quarrels 83 = .ok (.iaload, 1) := by decide +kernel
theorem dX5_quarrels_84 : decode cX5_quarrels 84 = .ok (.aload_n 0, 1) := by decide +kernel
theorem dX5_quarrels_85 : decode cX5_quarrels 85 = .ok (.getfield 39, 3) := by decide +kernel
theorem dX5_quarrels_88 : decode cX5_quarrels 88 = .ok (.iconst 3, 1) := by decide +kernel
theorem dX5_quarrels_89 : decode cX5_quarrels 89 = .ok (.iload_n 2, 1) := by decide +kernel
theorem dX5_quarrels_90 : decode cX5_quarrels 90 = .ok (.imul, 1) := by decide +kernel
theorem dX5_quarrels_91 : decode cX5_quarrels 91 = .ok (.iload 4, 2) := by decide +kernel
theorem dX5_quarrels_93 : decode cX5_quarrels 93 = .ok (.iadd, 1) := by decide +kernel
theorem dX5_quarrels_94 : decode cX5_quarrels 94 = .ok (.iaload, 1) := by decide +kernel
theorem dX5_quarrels_95 : decode cX5_quarrels 95 = .ok (.iand, 1) := by decide +kernel
theorem dX5_quarrels_96 : decode cX5_quarrels 96 = .ok (.ifCond .eq 7, 3) := by decide +kernel
theorem dX5_quarrels_99 : decode cX5_quarrels 99 = .ok (.iconst 1, 1) := by decide +kernel
theorem dX5_quarrels_100 : decode cX5_quarrels 100 = .ok (.goto 4, 3) := by decide +kernel
theorem dX5_quarrels_103 : decode cX5_quarrels 103 = .ok (.iconst 0, 1) := by decide +kernel
theorem dX5_quarrels_104 : decode cX5_quarrels 104 = .ok (.istore_n 3, 1) := by decide +kernel
theorem dX5_quarrels_105 : decode cX5_quarrels 105 = .ok (.iinc 4 1, 3) := by decide +kernel
theorem dX5_quarrels_108 : decode cX5_quarrels 108 = .ok (.goto (-45), 3) := by decide +kernel
theorem dX5_quarrels_111 : decode cX5_quarrels 111 = .ok (.iload_n 3, 1) := by decide +kernel
theorem dX5_quarrels_112 : decode cX5_quarrels 112 = .ok (.ireturn, 1) := by decide +kernel
theorem dX5_leastOf_0 : decode cX5_leastOf 0 = .ok (.iconst 0, 1) := by decide +kernel
theorem dX5_leastOf_1 : decode cX5_leastOf 1 = .ok (.istore_n 1, 1) := by decide +kernel
theorem dX5_leastOf_2 : decode cX5_leastOf 2 = .ok (.iload_n 0, 1) := by decide +kernel
theorem dX5_leastOf_3 : decode cX5_leastOf 3 = .ok (.iload_n 1, 1) := by decide +kernel
theorem dX5_leastOf_4 : decode cX5_leastOf 4 = .ok (.ishr, 1) := by decide +kernel
theorem dX5_leastOf_5 : decode cX5_leastOf 5 = .ok (.iconst 1, 1) := by decide +kernel
theorem dX5_leastOf_6 : decode cX5_leastOf 6 = .ok (.iand, 1) := by decide +kernel
theorem dX5_leastOf_7 : decode cX5_leastOf 7 = .ok (.ifCond .ne 9, 3) := by decide +kernel
theorem dX5_leastOf_10 : decode cX5_leastOf 10 = .ok (.iinc 1 1, 3) := by decide +kernel
theorem dX5_leastOf_13 : decode cX5_leastOf 13 = .ok (.goto (-11), 3) := by decide +kernel
theorem dX5_leastOf_16 : decode cX5_leastOf 16 = .ok (.iload_n 1, 1) := by decide +kernel
theorem dX5_leastOf_17 : decode cX5_leastOf 17 = .ok (.ireturn, 1) := by decide +kernel
theorem dX5_quarrel_0 : decode cX5_quarrel 0 = .ok (.iload_n 2, 1) := by decide +kernel
theorem dX5_quarrel_1 : decode cX5_quarrel 1 = .ok (.i2l, 1) := by decide +kernel
theorem dX5_quarrel_2 : decode cX5_quarrel 2 = .ok (.lconst 0, 1) := by decide +kernel
theorem dX5_quarrel_3 : decode cX5_quarrel 3 = .ok (.ldc2_w 167, 3) := by decide +kernel
theorem dX5_quarrel_6 : decode cX5_quarrel 6 = .ok (.invokestatic 82, 3) := by decide +kernel
theorem dX5_quarrel_9 : decode cX5_quarrel 9 = .ok (.ifCond .ne 7, 3) := by decide +kernel
theorem dX5_quarrel_12 : decode cX5_quarrel 12 = .ok (.sipush (-1002), 3) := by decide +kernel
theorem dX5_quarrel_15 : decode cX5_quarrel 15 = .ok (.ireturn, 1) := by decide +kernel
theorem dX5_quarrel_16 : decode cX5_quarrel 16 = .ok (.iconst 0, 1) := by decide +kernel
theorem dX5_quarrel_17 : decode cX5_quarrel 17 = .ok (.istore_n 3, 1) := by decide +kernel
theorem dX5_quarrel_18 : decode cX5_quarrel 18 = .ok (.iconst 0, 1) := by decide +kernel
theorem dX5_quarrel_19 : decode cX5_quarrel 19 = .ok (.istore 4, 2) := by decide +kernel
theorem dX5_quarrel_21 : decode cX5_quarrel 21 = .ok (.iload 4, 2) := by decide +kernel
theorem dX5_quarrel_23 : decode cX5_quarrel 23 = .ok (.aload_n 0, 1) := by decide +kernel
theorem dX5_quarrel_24 : decode cX5_quarrel 24 = .ok (.getfield 79, 3) := by decide +kernel
theorem dX5_quarrel_27 : decode cX5_quarrel 27 = .ok (.if_icmp .ge 99, 3) := by decide +kernel
theorem dX5_quarrel_30 : decode cX5_quarrel 30 = .ok (.iload 4, 2) := by decide +kernel
theorem dX5_quarrel_32 : decode cX5_quarrel 32 = .ok (.iconst 1, 1) := by decide +kernel
theorem dX5_quarrel_33 : decode cX5_quarrel 33 = .ok (.iadd, 1) := by decide +kernel
theorem dX5_quarrel_34 : decode cX5_quarrel 34 = .ok (.istore 5, 2) := by decide +kernel
theorem dX5_quarrel_36 : decode cX5_quarrel 36 = .ok (.iload 5, 2) := by decide +kernel
theorem dX5_quarrel_38 : decode cX5_quarrel 38 = .ok (.aload_n 0, 1) := by decide +kernel
theorem dX5_quarrel_39 : decode cX5_quarrel 39 = .ok (.getfield 79, 3) := by decide +kernel
theorem dX5_quarrel_42 : decode cX5_quarrel 42 = .ok (.if_icmp .ge 78, 3) := by decide +kernel
theorem dX5_quarrel_45 : decode cX5_quarrel 45 = .ok (.aload_n 0, 1) := by decide +kernel
theorem dX5_quarrel_46 : decode cX5_quarrel 46 = .ok (.iload 4, 2) := by decide +kernel
theorem dX5_quarrel_48 : decode cX5_quarrel 48 = .ok (.iload 5, 2) := by decide +kernel
theorem dX5_quarrel_50 : decode cX5_quarrel 50 = .ok (.invokevirtual 169, 3) := by decide +kernel
theorem dX5_quarrel_53 : decode cX5_quarrel 53 = .ok (.ifCond .eq 61, 3) := by decide +kernel
theorem dX5_quarrel_56 : decode cX5_quarrel 56 = .ok (.iload_n 3, 1) := by decide +kernel
theorem dX5_quarrel_57 : decode cX5_quarrel 57 = .ok (.iload_n 1, 1) := by decide +kernel
theorem dX5_quarrel_58 : decode cX5_quarrel 58 = .ok (.if_icmp .ne 53, 3) := by decide +kernel
theorem dX5_quarrel_61 : decode cX5_quarrel 61 = .ok (.iload_n 2, 1) := by decide +kernel
theorem dX5_quarrel_62 : decode cX5_quarrel 62 = .ok (.ifCond .ne 8, 3) := by decide +kernel
theorem dX5_quarrel_65 : decode cX5_quarrel 65 = .ok (.iload 4, 2) := by decide +kernel
theorem dX5_quarrel_67 : decode cX5_quarrel 67 = .ok (.goto 43, 3) := by decide +kernel
theorem dX5_quarrel_70 : decode cX5_quarrel 70 = .ok (.iload_n 2, 1) := by decide +kernel
theorem dX5_quarrel_71 : decode cX5_quarrel 71 = .ok (.iconst 1, 1) := by decide +kernel
theorem dX5_quarrel_72 : decode cX5_quarrel 72 = .ok (.if_icmp .ne 8, 3) := by decide +kernel
theorem dX5_quarrel_75 : decode cX5_quarrel 75 = .ok (.iload 5, 2) := by decide +kernel
theorem dX5_quarrel_77 : decode cX5_quarrel 77 = .ok (.goto 33, 3) := by decide +kernel
theorem dX5_quarrel_80 : decode cX5_quarrel 80 = .ok (.aload_n 0, 1) := by decide +kernel
theorem dX5_quarrel_81 : decode cX5_quarrel 81 = .ok (.getfield 39, 3) := by decide +kernel
theorem dX5_quarrel_84 : decode cX5_quarrel 84 = .ok (.iconst 3, 1) := by decide +kernel
theorem dX5_quarrel_85 : decode cX5_quarrel 85 = .ok (.iload 4, 2) := by decide +kernel
theorem dX5_quarrel_87 : decode cX5_quarrel 87 = .ok (.imul, 1) := by decide +kernel
theorem dX5_quarrel_88 : decode cX5_quarrel 88 = .ok (.iload_n 2, 1) := by decide +kernel
theorem dX5_quarrel_89 : decode cX5_quarrel 89 = .ok (.iadd, 1) := by decide +kernel
theorem dX5_quarrel_90 : decode cX5_quarrel 90 = .ok (.iconst 2, 1) := by decide +kernel
theorem dX5_quarrel_91 : decode cX5_quarrel 91 = .ok (.isub, 1) := by decide +kernel
theorem dX5_quarrel_92 : decode cX5_quarrel 92 = .ok (.iaload, 1) := by decide +kernel
theorem dX5_quarrel_93 : decode cX5_quarrel 93 = .ok (.aload_n 0, 1) := by decide +kernel
theorem dX5_quarrel_94 : decode cX5_quarrel 94 = .ok (.getfield 39, 3) := by decide +kernel
theorem dX5_quarrel_97 : decode cX5_quarrel 97 = .ok (.iconst 3, 1) := by decide +kernel
theorem dX5_quarrel_98 : decode cX5_quarrel 98 = .ok (.iload 5, 2) := by decide +kernel
theorem dX5_quarrel_100 : decode cX5_quarrel 100 = .ok (.imul, 1) := by decide +kernel
theorem dX5_quarrel_101 : decode cX5_quarrel 101 = .ok (.iload_n 2, 1) := by decide +kernel
theorem dX5_quarrel_102 : decode cX5_quarrel 102 = .ok (.iadd, 1) := by decide +kernel
theorem dX5_quarrel_103 : decode cX5_quarrel 103 = .ok (.iconst 2, 1) := by decide +kernel
theorem dX5_quarrel_104 : decode cX5_quarrel 104 = .ok (.isub, 1) := by decide +kernel
theorem dX5_quarrel_105 : decode cX5_quarrel 105 = .ok (.iaload, 1) := by decide +kernel
theorem dX5_quarrel_106 : decode cX5_quarrel 106 = .ok (.iand, 1) := by decide +kernel
theorem dX5_quarrel_107 : decode cX5_quarrel 107 = .ok (.invokestatic 172, 3) := by decide +kernel
theorem dX5_quarrel_110 : decode cX5_quarrel 110 = .ok (.ireturn, 1) := by decide +kernel
theorem dX5_quarrel_111 : decode cX5_quarrel 111 = .ok (.iinc 3 1, 3) := by decide +kernel
theorem dX5_quarrel_114 : decode cX5_quarrel 114 = .ok (.iinc 5 1, 3) := by decide +kernel
theorem dX5_quarrel_117 : decode cX5_quarrel 117 = .ok (.goto (-81), 3) := by decide +kernel
theorem dX5_quarrel_120 : decode cX5_quarrel 120 = .ok (.iinc 4 1, 3) := by decide +kernel
theorem dX5_quarrel_123 : decode cX5_quarrel 123 = .ok (.goto (-102), 3) := by decide +kernel
theorem dX5_quarrel_126 : decode cX5_quarrel 126 = .ok (.iconst (-1), 1) := by decide +kernel
theorem dX5_quarrel_127 : decode cX5_quarrel 127 = .ok (.ireturn, 1) := by decide +kernel
theorem dX5_ask_0 : decode cX5_ask 0 = .ok (.iload_n 3, 1) := by decide +kernel
theorem dX5_ask_1 : decode cX5_ask 1 = .ok (.iconst (-1), 1) := by decide +kernel
theorem dX5_ask_2 : decode cX5_ask 2 = .ok (.if_icmp .eq 11, 3) := by decide +kernel
theorem dX5_ask_5 : decode cX5_ask 5 = .ok (.iconst 0, 1) := by decide +kernel
theorem dX5_ask_6 : decode cX5_ask 6 = .ok (.iload_n 3, 1) := by decide +kernel
theorem dX5_ask_7 : decode cX5_ask 7 = .ok (.invokestatic 152, 3) := by decide +kernel
theorem dX5_ask_10 : decode cX5_ask 10 = .ok (.ifCond .eq 7, 3) := by decide +kernel
theorem dX5_ask_13 : decode cX5_ask 13 = .ok (.iconst 1, 1) := by decide +kernel
theorem dX5_ask_14 : decode cX5_ask 14 = .ok (.goto 4, 3) := by decide +kernel
theorem dX5_ask_17 : decode cX5_ask 17 = .ok (.iconst 0, 1) := by decide +kernel
theorem dX5_ask_18 : decode cX5_ask 18 = .ok (.istore 6, 2) := by decide +kernel
theorem dX5_ask_20 : decode cX5_ask 20 = .ok (.iload 6, 2) := by decide +kernel
theorem dX5_ask_22 : decode cX5_ask 22 = .ok (.ifCond .eq 37, 3) := by decide +kernel
theorem dX5_ask_25 : decode cX5_ask 25 = .ok (.iload 4, 2) := by decide +kernel
theorem dX5_ask_27 : decode cX5_ask 27 = .ok (.iconst (-1), 1) := by decide +kernel
theorem dX5_ask_28 : decode cX5_ask 28 = .ok (.if_icmp .eq 12, 3) := by decide +kernel
theorem dX5_ask_31 : decode cX5_ask 31 = .ok (.iconst 1, 1) := by decide +kernel
theorem dX5_ask_32 : decode cX5_ask 32 = .ok (.iload 4, 2) := by decide +kernel
theorem dX5_ask_34 : decode cX5_ask 34 = .ok (.invokestatic 152, 3) := by decide +kernel
theorem dX5_ask_37 : decode cX5_ask 37 = .ok (.ifCond .eq 22, 3) := by decide +kernel
theorem dX5_ask_40 : decode cX5_ask 40 = .ok (.iload 5, 2) := by decide +kernel
theorem dX5_ask_42 : decode cX5_ask 42 = .ok (.iconst (-1), 1) := by decide +kernel
theorem dX5_ask_43 : decode cX5_ask 43 = .ok (.if_icmp .eq 12, 3) := by decide +kernel
theorem dX5_ask_46 : decode cX5_ask 46 = .ok (.iconst 2, 1) := by decide +kernel
theorem dX5_ask_47 : decode cX5_ask 47 = .ok (.iload 5, 2) := by decide +kernel
theorem dX5_ask_49 : decode cX5_ask 49 = .ok (.invokestatic 152, 3) := by decide +kernel
theorem dX5_ask_52 : decode cX5_ask 52 = .ok (.ifCond .eq 7, 3) := by decide +kernel
theorem dX5_ask_55 : decode cX5_ask 55 = .ok (.iconst 1, 1) := by decide +kernel
theorem dX5_ask_56 : decode cX5_ask 56 = .ok (.goto 4, 3) := by decide +kernel
theorem dX5_ask_59 : decode cX5_ask 59 = .ok (.iconst 0, 1) := by decide +kernel
theorem dX5_ask_60 : decode cX5_ask 60 = .ok (.istore 6, 2) := by decide +kernel
theorem dX5_ask_62 : decode cX5_ask 62 = .ok (.lload_n 1, 1) := by decide +kernel
theorem dX5_ask_63 : decode cX5_ask 63 = .ok (.lconst 0, 1) := by decide +kernel
theorem dX5_ask_64 : decode cX5_ask 64 = .ok (.ldc2_w 97, 3) := by decide +kernel
theorem dX5_ask_67 : decode cX5_ask 67 = .ok (.invokestatic 82, 3) := by decide +kernel
theorem dX5_ask_70 : decode cX5_ask 70 = .ok (.ifCond .eq 8, 3) := by decide +kernel
theorem dX5_ask_73 : decode cX5_ask 73 = .ok (.iload 6, 2) := by decide +kernel
theorem dX5_ask_75 : decode cX5_ask 75 = .ok (.ifCond .ne 7, 3) := by decide +kernel
theorem dX5_ask_78 : decode cX5_ask 78 = .ok (.sipush (-1002), 3) := by decide +kernel
theorem dX5_ask_81 : decode cX5_ask 81 = .ok (.ireturn, 1) := by decide +kernel
theorem dX5_ask_82 : decode cX5_ask 82 = .ok (.aload_n 0, 1) := by decide +kernel
theorem dX5_ask_83 : decode cX5_ask 83 = .ok (.getfield 175, 3) := by decide +kernel
theorem dX5_ask_86 : decode cX5_ask 86 = .ok (.bipush 30, 2) := by decide +kernel
theorem dX5_ask_88 : decode cX5_ask 88 = .ok (.if_icmp .ne 7, 3) := by decide +kernel
theorem dX5_ask_91 : decode cX5_ask 91 = .ok (.sipush (-1004), 3) := by decide +kernel
theorem dX5_ask_94 : decode cX5_ask 94 = .ok (.ireturn, 1) := by decide +kernel
theorem dX5_ask_95 : decode cX5_ask 95 = .ok (.aload_n 0, 1) := by decide +kernel
theorem dX5_ask_96 : decode cX5_ask 96 = .ok (.getfield 54, 3) := by decide +kernel
theorem dX5_ask_99 : decode cX5_ask 99 = .ok (.aload_n 0, 1) := by decide +kernel
theorem dX5_ask_100 : decode cX5_ask 100 = .ok (.getfield 175, 3) := by decide +kernel
theorem dX5_ask_103 : decode cX5_ask 103 = .ok (.lload_n 1, 1) := by decide +kernel
theorem dX5_ask_104 : decode cX5_ask 104 = .ok (.lastore, 1) := by decide +kernel
theorem dX5_ask_105 : decode cX5_ask 105 = .ok (.aload_n 0, 1) := by decide +kernel
theorem dX5_ask_106 : decode cX5_ask 106 = .ok (.getfield 57, 3) := by decide +kernel
theorem dX5_ask_109 : decode cX5_ask 109 = .ok (.iconst 3, 1) := by decide +kernel
theorem dX5_ask_110 : decode cX5_ask 110 = .ok (.aload_n 0, 1) := by decide +kernel
theorem dX5_ask_111 : decode cX5_ask 111 = .ok (.getfield 175, 3) := by decide +kernel
theorem dX5_ask_114 : decode cX5_ask 114 = .ok (.imul, 1) := by decide +kernel
theorem dX5_ask_115 : decode cX5_ask 115 = .ok (.iload_n 3, 1) := by decide +kernel
theorem dX5_ask_116 : decode cX5_ask 116 = .ok (.iastore, 1) := by decide +kernel
theorem dX5_ask_117 : decode cX5_ask 117 = .ok (.aload_n 0, 1) := by decide +kernel
theorem dX5_ask_118 : decode cX5_ask 118 = .ok (.getfield 57, 3) := by decide +kernel
theorem dX5_ask_121 : decode cX5_ask 121 = .ok (.iconst 3, 1) := by decide +kernel
theorem dX5_ask_122 : decode cX5_ask 122 = .ok (.aload_n 0, 1) := by decide +kernel
theorem dX5_ask_123 : decode cX5_ask 123 = .ok (.getfield 175, 3) := by decide +kernel
theorem dX5_ask_126 : decode cX5_ask 126 = .ok (.imul, 1) := by decide +kernel
theorem dX5_ask_127 : decode cX5_ask 127 = .ok (.iconst 1, 1) := by decide +kernel
theorem dX5_ask_128 : decode cX5_ask 128 = .ok (.iadd, 1) := by decide +kernel
theorem dX5_ask_129 : decode cX5_ask 129 = .ok (.iload 4, 2) := by decide +kernel
theorem dX5_ask_131 : decode cX5_ask 131 = .ok (.iastore, 1) := by decide +kernel
theorem dX5_ask_132 : decode cX5_ask 132 = .ok (.aload_n 0, 1) := by decide +kernel
theorem dX5_ask_133 : decode cX5_ask 133 = .ok (.getfield 57, 3) := by decide +kernel
theorem dX5_ask_136 : decode cX5_ask 136 = .ok (.iconst 3, 1) := by decide +kernel
theorem dX5_ask_137 : decode cX5_ask 137 = .ok (.aload_n 0, 1) := by decide +kernel
theorem dX5_ask_138 : decode cX5_ask 138 = .ok (.getfield 175, 3) := by decide +kernel
theorem dX5_ask_141 : decode cX5_ask 141 = .ok (.imul, 1) := by decide +kernel
theorem dX5_ask_142 : decode cX5_ask 142 = .ok (.iconst 2, 1) := by decide +kernel
theorem dX5_ask_143 : decode cX5_ask 143 = .ok (.iadd, 1) := by decide +kernel
theorem dX5_ask_144 : decode cX5_ask 144 = .ok (.iload 5, 2) := by decide +kernel
theorem dX5_ask_146 : decode cX5_ask 146 = .ok (.iastore, 1) := by decide +kernel
theorem dX5_ask_147 : decode cX5_ask 147 = .ok (.aload_n 0, 1) := by decide +kernel
theorem dX5_ask_148 : decode cX5_ask 148 = .ok (.dup, 1) := by decide +kernel
theorem dX5_ask_149 : decode cX5_ask 149 = .ok (.getfield 175, 3) := by decide +kernel
theorem dX5_ask_152 : decode cX5_ask 152 = .ok (.iconst 1, 1) := by decide +kernel
theorem dX5_ask_153 : decode cX5_ask 153 = .ok (.iadd, 1) := by decide +kernel
theorem dX5_ask_154 : decode cX5_ask 154 = .ok (.putfield 175, 3) := by decide +kernel
theorem dX5_ask_157 : decode cX5_ask 157 = .ok (.aload_n 0, 1) := by decide +kernel
theorem dX5_ask_158 : decode cX5_ask 158 = .ok (.getfield 175, 3) := by decide +kernel
theorem dX5_ask_161 : decode cX5_ask 161 = .ok (.iconst 1, 1) := by decide +kernel
theorem dX5_ask_162 : decode cX5_ask 162 = .ok (.isub, 1) := by decide +kernel
theorem dX5_ask_163 : decode cX5_ask 163 = .ok (.ireturn, 1) := by decide +kernel
theorem dX5_isAsk_0 : decode cX5_isAsk 0 = .ok (.iload_n 1, 1) := by decide +kernel
theorem dX5_isAsk_1 : decode cX5_isAsk 1 = .ok (.i2l, 1) := by decide +kernel
theorem dX5_isAsk_2 : decode cX5_isAsk 2 = .ok (.lconst 0, 1) := by decide +kernel
theorem dX5_isAsk_3 : decode cX5_isAsk 3 = .ok (.aload_n 0, 1) := by decide +kernel
theorem dX5_isAsk_4 : decode cX5_isAsk 4 = .ok (.getfield 175, 3) := by decide +kernel
theorem dX5_isAsk_7 : decode cX5_isAsk 7 = .ok (.iconst 1, 1) := by decide +kernel
theorem dX5_isAsk_8 : decode cX5_isAsk 8 = .ok (.isub, 1) := by decide +kernel
theorem dX5_isAsk_9 : decode cX5_isAsk 9 = .ok (.i2l, 1) := by decide +kernel
theorem dX5_isAsk_10 : decode cX5_isAsk 10 = .ok (.invokestatic 82, 3) := by decide +kernel
theorem dX5_isAsk_13 : decode cX5_isAsk 13 = .ok (.ireturn, 1) := by decide +kernel
theorem dX5_isFit_0 : decode cX5_isFit 0 = .ok (.aload_n 0, 1) := by decide +kernel
theorem dX5_isFit_1 : decode cX5_isFit 1 = .ok (.getfield 29, 3) := by decide +kernel
theorem dX5_isFit_4 : decode cX5_isFit 4 = .ok (.iload_n 2, 1) := by decide +kernel
theorem dX5_isFit_5 : decode cX5_isFit 5 = .ok (.iaload, 1) := by decide +kernel
theorem dX5_isFit_6 : decode cX5_isFit 6 = .ok (.ifCond .ge 7, 3) := by decide +kernel
theorem dX5_isFit_9 : decode cX5_isFit 9 = .ok (.iconst 1, 1) := by decide +kernel
theorem dX5_isFit_10 : decode cX5_isFit 10 = .ok (.goto 4, 3) := by decide +kernel
theorem dX5_isFit_13 : decode cX5_isFit 13 = .ok (.iconst 0, 1) := by decide +kernel
theorem dX5_isFit_14 : decode cX5_isFit 14 = .ok (.istore_n 3, 1) := by decide +kernel
theorem dX5_isFit_15 : decode cX5_isFit 15 = .ok (.iconst 0, 1) := by decide +kernel
theorem dX5_isFit_16 : decode cX5_isFit 16 = .ok (.istore 4, 2) := by decide +kernel
theorem dX5_isFit_18 : decode cX5_isFit 18 = .ok (.iload 4, 2) := by decide +kernel
theorem dX5_isFit_20 : decode cX5_isFit 20 = .ok (.iconst 3, 1) := by decide +kernel
theorem dX5_isFit_21 : decode cX5_isFit 21 = .ok (.if_icmp .ge 66, 3) := by decide +kernel
theorem dX5_isFit_24 : decode cX5_isFit 24 = .ok (.aload_n 0, 1) := by decide +kernel
theorem dX5_isFit_25 : decode cX5_isFit 25 = .ok (.getfield 57, 3) := by decide +kernel
theorem dX5_isFit_28 : decode cX5_isFit 28 = .ok (.iconst 3, 1) := by decide +kernel
theorem dX5_isFit_29 : decode cX5_isFit 29 = .ok (.iload_n 1, 1) := by decide +kernel
theorem dX5_isFit_30 : decode cX5_isFit 30 = .ok (.imul, 1) := by decide +kernel
theorem dX5_isFit_31 : decode cX5_isFit 31 = .ok (.iload 4, 2) := by decide +kernel
theorem dX5_isFit_33 : decode cX5_isFit 33 = .ok (.iadd, 1) := by decide +kernel
theorem dX5_isFit_34 : decode cX5_isFit 34 = .ok (.iaload, 1) := by decide +kernel
theorem dX5_isFit_35 : decode cX5_isFit 35 = .ok (.istore 5, 2) := by decide +kernel
theorem dX5_isFit_37 : decode cX5_isFit 37 = .ok (.aload_n 0, 1) := by decide +kernel
theorem dX5_isFit_38 : decode cX5_isFit 38 = .ok (.getfield 67, 3) := by decide +kernel
theorem dX5_isFit_41 : decode cX5_isFit 41 = .ok (.iconst 3, 1) := by decide +kernel
theorem dX5_isFit_42 : decode cX5_isFit 42 = .ok (.iload_n 2, 1) := by decide +kernel
theorem dX5_isFit_43 : decode cX5_isFit 43 = .ok (.imul, 1) := by decide +kernel
theorem dX5_isFit_44 : decode cX5_isFit 44 = .ok (.iload 4, 2) := by decide +kernel
theorem dX5_isFit_46 : decode cX5_isFit 46 = .ok (.iadd, 1) := by decide +kernel
theorem dX5_isFit_47 : decode cX5_isFit 47 = .ok (.iaload, 1) := by decide +kernel
theorem dX5_isFit_48 : decode cX5_isFit 48 = .ok (.istore 6, 2) := by decide +kernel
theorem dX5_isFit_50 : decode cX5_isFit 50 = .ok (.iload_n 3, 1) := by decide +kernel
theorem dX5_isFit_51 : decode cX5_isFit 51 = .ok (.ifCond .eq 28, 3) := by decide +kernel
theorem dX5_isFit_54 : decode cX5_isFit 54 = .ok (.iload 6, 2) := by decide +kernel
theorem dX5_isFit_56 : decode cX5_isFit 56 = .ok (.ifCond .eq 23, 3) := by decide +kernel
theorem dX5_isFit_59 : decode cX5_isFit 59 = .ok (.iload 5, 2) := by decide +kernel
theorem dX5_isFit_61 : decode cX5_isFit 61 = .ok (.ifCond .lt 14, 3) := by decide +kernel
theorem dX5_isFit_64 : decode cX5_isFit 64 = .ok (.iload 6, 2) := by decide +kernel
theorem dX5_isFit_66 : decode cX5_isFit 66 = .ok (.iload 5, 2) := by decide +kernel
theorem dX5_isFit_68 : decode cX5_isFit 68 = .ok (.ishr, 1) := by decide +kernel
theorem dX5_isFit_69 : decode cX5_isFit 69 = .ok (.iconst 1, 1) := by decide +kernel
theorem dX5_isFit_70 : decode cX5_isFit 70 = .ok (.iand, 1) := by decide +kernel
theorem dX5_isFit_71 : decode cX5_isFit 71 = .ok (.iconst 1, 1) := by decide +kernel
theorem dX5_isFit_72 : decode cX5_isFit 72 = .ok (.if_icmp .ne 7, 3) := by decide +kernel
theorem dX5_isFit_75 : decode cX5_isFit 75 = .ok (.iconst 1, 1) := by decide +kernel
theorem dX5_isFit_76 : decode cX5_isFit 76 = .ok (.goto 4, 3) := by decide +kernel
theorem dX5_isFit_79 : decode cX5_isFit 79 = .ok (.iconst 0, 1) := by decide +kernel
theorem dX5_isFit_80 : decode cX5_isFit 80 = .ok (.istore_n 3, 1) := by decide +kernel
theorem dX5_isFit_81 : decode cX5_isFit 81 = .ok (.iinc 4 1, 3) := by decide +kernel
theorem dX5_isFit_84 : decode cX5_isFit 84 = .ok (.goto (-66), 3) := by decide +kernel
theorem dX5_isFit_87 : decode cX5_isFit 87 = .ok (.iload_n 3, 1) := by decide +kernel
theorem dX5_isFit_88 : decode cX5_isFit 88 = .ok (.ireturn, 1) := by decide +kernel
theorem dX5_questionOf_0 : decode cX5_questionOf 0 = .ok (.iconst 0, 1) := by decide +kernel
theorem dX5_questionOf_1 : decode cX5_questionOf 1 = .ok (.istore_n 3, 1) := by decide +kernel
theorem dX5_questionOf_2 : decode cX5_questionOf 2 = .ok (.iload_n 3, 1) := by decide +kernel
theorem dX5_questionOf_3 : decode cX5_questionOf 3 = .ok (.iconst 3, 1) := by decide +kernel
theorem dX5_questionOf_4 : decode cX5_questionOf 4 = .ok (.if_icmp .ge 41, 3) := by decide +kernel
theorem dX5_questionOf_7 : decode cX5_questionOf 7 = .ok (.aload_n 0, 1) := by decide +kernel
theorem dX5_questionOf_8 : decode cX5_questionOf 8 = .ok (.getfield 57, 3) := by decide +kernel
theorem dX5_questionOf_11 : decode cX5_questionOf 11 = .ok (.iconst 3, 1) := by decide +kernel
theorem dX5_questionOf_12 : decode cX5_questionOf 12 = .ok (.iload_n 1, 1) := by decide +kernel
theorem dX5_questionOf_13 : decode cX5_questionOf 13 = .ok (.imul, 1) := by decide +kernel
theorem dX5_questionOf_14 : decode cX5_questionOf 14 = .ok (.iload_n 3, 1) := by decide +kernel
theorem dX5_questionOf_15 : decode cX5_questionOf 15 = .ok (.iadd, 1) := by decide +kernel
theorem dX5_questionOf_16 : decode cX5_questionOf 16 = .ok (.iaload, 1) := by decide +kernel
theorem dX5_questionOf_17 : decode cX5_questionOf 17 = .ok (.ifCond .ge 22, 3) := by decide +kernel
theorem dX5_questionOf_20 : decode cX5_questionOf 20 = .ok (.aload_n 0, 1) := by decide +kernel
theorem dX5_questionOf_21 : decode cX5_questionOf 21 = .ok (.getfield 67, 3) := by decide +kernel
theorem dX5_questionOf_24 : decode cX5_questionOf 24 = .ok (.iconst 3, 1) := by decide +kernel
theorem dX5_questionOf_25 : decode cX5_questionOf 25 = .ok (.iload_n 2, 1) := by decide +kernel
theorem dX5_questionOf_26 : decode cX5_questionOf 26 = .ok (.imul, 1) := by decide +kernel
theorem dX5_questionOf_27 : decode cX5_questionOf 27 = .ok (.iload_n 3, 1) := by decide +kernel
theorem dX5_questionOf_28 : decode cX5_questionOf 28 = .ok (.iadd, 1) := by decide +kernel
theorem dX5_questionOf_29 : decode cX5_questionOf 29 = .ok (.iaload, 1) := by decide +kernel
theorem dX5_questionOf_30 : decode cX5_questionOf 30 = .ok (.iload_n 3, 1) := by decide +kernel
theorem dX5_questionOf_31 : decode cX5_questionOf 31 = .ok (.invokestatic 124, 3) := by decide +kernel
theorem dX5_questionOf_34 : decode cX5_questionOf 34 = .ok (.if_icmp .eq 5, 3) := by decide +kernel
theorem dX5_questionOf_37 : decode cX5_questionOf 37 = .ok (.iload_n 3, 1) := by decide +kernel
theorem dX5_questionOf_38 : decode cX5_questionOf 38 = .ok (.ireturn, 1) := by decide +kernel
theorem dX5_questionOf_39 : decode cX5_questionOf 39 = .ok (.iinc 3 1, 3) := by decide +kernel
theorem dX5_questionOf_42 : decode cX5_questionOf 42 = .ok (.goto (-40), 3) := by decide +kernel
theorem dX5_questionOf_45 : decode cX5_questionOf 45 = .ok (.iconst (-1), 1) := by decide +kernel
theorem dX5_questionOf_46 : decode cX5_questionOf 46 = .ok (.ireturn, 1) := by decide +kernel
theorem dX5_costWith_0 : decode cX5_costWith 0 = .ok (.aload_n 0, 1) := by decide +kernel
theorem dX5_costWith_1 : decode cX5_costWith 1 = .ok (.lload_n 1, 1) := by decide +kernel
theorem dX5_costWith_2 : decode cX5_costWith 2 = .ok (.invokevirtual 155, 3) := by decide +kernel
theorem dX5_costWith_5 : decode cX5_costWith 5 = .ok (.lstore 5, 2) := by decide +kernel
theorem dX5_costWith_7 : decode cX5_costWith 7 = .ok (.aload_n 0, 1) := by decide +kernel
theorem dX5_costWith_8 : decode cX5_costWith 8 = .ok (.aload_n 0, 1) := by decide +kernel
theorem dX5_costWith_9 : decode cX5_costWith 9 = .ok (.getfield 64, 3) := by decide +kernel
theorem dX5_costWith_12 : decode cX5_costWith 12 = .ok (.iload 4, 2) := by decide +kernel
theorem dX5_costWith_14 : decode cX5_costWith 14 = .ok (.laload, 1) := by decide +kernel
theorem dX5_costWith_15 : decode cX5_costWith 15 = .ok (.invokevirtual 155, 3) := by decide +kernel
theorem dX5_costWith_18 : decode cX5_costWith 18 = .ok (.lstore 7, 2) := by decide +kernel
theorem dX5_costWith_20 : decode cX5_costWith 20 = .ok (.aload_n 0, 1) := by decide +kernel
theorem dX5_costWith_21 : decode cX5_costWith 21 = .ok (.getfield 48, 3) := by decide +kernel
theorem dX5_costWith_24 : decode cX5_costWith 24 = .ok (.iload 4, 2) := by decide +kernel
theorem dX5_costWith_26 : decode cX5_costWith 26 = .ok (.iaload, 1) := by decide +kernel
theorem dX5_costWith_27 : decode cX5_costWith 27 = .ok (.bipush 9, 2) := by decide +kernel
theorem dX5_costWith_29 : decode cX5_costWith 29 = .ok (.if_icmp .le 8, 3) := by decide +kernel
theorem dX5_costWith_32 : decode cX5_costWith 32 = .ok (.bipush 9, 2) := by decide +kernel
theorem dX5_costWith_34 : decode cX5_costWith 34 = .ok (.goto 27, 3) := by decide +kernel
theorem dX5_costWith_37 : decode cX5_costWith 37 = .ok (.aload_n 0, 1) := by decide +kernel
theorem dX5_costWith_38 : decode cX5_costWith 38 = .ok (.getfield 48, 3) := by decide +kernel
theorem dX5_costWith_41 : decode cX5_costWith 41 = .ok (.iload 4, 2) := by decide +kernel
theorem dX5_costWith_43 : decode cX5_costWith 43 = .ok (.iaload, 1) := by decide +kernel
theorem dX5_costWith_44 : decode cX5_costWith 44 = .ok (.bipush (-9), 2) := by decide +kernel
theorem dX5_costWith_46 : decode cX5_costWith 46 = .ok (.if_icmp .ge 8, 3) := by decide +kernel
theorem dX5_costWith_49 : decode cX5_costWith 49 = .ok (.bipush (-9), 2) := by decide +kernel
theorem dX5_costWith_51 : decode cX5_costWith 51 = .ok (.goto 10, 3) := by decide +kernel
theorem dX5_costWith_54 : decode cX5_costWith 54 = .ok (.aload_n 0, 1) := by decide +kernel
theorem dX5_costWith_55 : decode cX5_costWith 55 = .ok (.getfield 48, 3) := by decide +kernel
theorem dX5_costWith_58 : decode cX5_costWith 58 = .ok (.iload 4, 2) := by decide +kernel
theorem dX5_costWith_60 : decode cX5_costWith 60 = .ok (.iaload, 1) := by decide +kernel
theorem dX5_costWith_61 : decode cX5_costWith 61 = .ok (.istore 9, 2) := by decide +kernel
theorem dX5_costWith_63 : decode cX5_costWith 63 = .ok (.bipush 10, 2) := by decide +kernel
theorem dX5_costWith_65 : decode cX5_costWith 65 = .ok (.lload 5, 2) := by decide +kernel
theorem dX5_costWith_67 : decode cX5_costWith 67 = .ok (.lload 7, 2) := by decide +kernel
theorem dX5_costWith_69 : decode cX5_costWith 69 = .ok (.ldc2_w 178, 3) := by decide +kernel
theorem dX5_costWith_72 : decode cX5_costWith 72 = .ok (.lxor, 1) := by decide +kernel
theorem dX5_costWith_73 : decode cX5_costWith 73 = .ok (.land, 1) := by decide +kernel
theorem dX5_costWith_74 : decode cX5_costWith 74 = .ok (.invokestatic 159, 3) := by decide +kernel
theorem dX5_costWith_77 : decode cX5_costWith 77 = .ok (.imul, 1) := by decide +kernel
theorem dX5_costWith_78 : decode cX5_costWith 78 = .ok (.iconst 3, 1) := by decide +kernel
theorem dX5_costWith_79 : decode cX5_costWith 79 = .ok (.lload 7, 2) := by decide +kernel
theorem dX5_costWith_81 : decode cX5_costWith 81 = .ok (.lload 5, 2) := by decide +kernel
theorem dX5_costWith_83 : decode cX5_costWith 83 = .ok (.ldc2_w 178, 3) := by decide +kernel
theorem dX5_costWith_86 : decode cX5_costWith 86 = .ok (.lxor, 1) := by decide +kernel
theorem dX5_costWith_87 : decode cX5_costWith 87 = .ok (.land, 1) := by decide +kernel
theorem dX5_costWith_88 : decode cX5_costWith 88 = .ok (.invokestatic 159, 3) := by decide +kernel
theorem dX5_costWith_91 : decode cX5_costWith 91 = .ok (.imul, 1) := by decide +kernel
theorem dX5_costWith_92 : decode cX5_costWith 92 = .ok (.iadd, 1) := by decide +kernel
theorem dX5_costWith_93 : decode cX5_costWith 93 = .ok (.aload_n 0, 1) := by decide +kernel
theorem dX5_costWith_94 : decode cX5_costWith 94 = .ok (.getfield 73, 3) := by decide +kernel
theorem dX5_costWith_97 : decode cX5_costWith 97 = .ok (.iload 4, 2) := by decide +kernel
theorem dX5_costWith_99 : decode cX5_costWith 99 = .ok (.baload, 1) := by decide +kernel
theorem dX5_costWith_100 : decode cX5_costWith 100 = .ok (.ifCond .eq 8, 3) := by decide +kernel
theorem dX5_costWith_103 : decode cX5_costWith 103 = .ok (.bipush 15, 2) := by decide +kernel
theorem dX5_costWith_105 : decode cX5_costWith 105 = .ok (.goto 4, 3) := by decide +kernel
theorem dX5_costWith_108 : decode cX5_costWith 108 = .ok (.iconst 0, 1) := by decide +kernel
theorem dX5_costWith_109 : decode cX5_costWith 109 = .ok (.iadd, 1) := by decide +kernel
theorem dX5_costWith_110 : decode cX5_costWith 110 = .ok (.aload_n 0, 1) := by decide +kernel
theorem dX5_costWith_111 : decode cX5_costWith 111 = .ok (.iload_n 3, 1) := by decide +kernel
theorem dX5_costWith_112 : decode cX5_costWith 112 = .ok (.iload 4, 2) := by decide +kernel
theorem dX5_costWith_114 : decode cX5_costWith 114 = .ok (.invokevirtual 180, 3) := by decide +kernel
theorem dX5_costWith_117 : decode cX5_costWith 117 = .ok (.ifCond .lt 7, 3) := by decide +kernel
theorem dX5_costWith_120 : decode cX5_costWith 120 = .ok (.iconst 5, 1) := by decide +kernel
theorem dX5_costWith_121 : decode cX5_costWith 121 = .ok (.goto 4, 3) := by decide +kernel
theorem dX5_costWith_124 : decode cX5_costWith 124 = .ok (.iconst 0, 1) := by decide +kernel
theorem dX5_costWith_125 : decode cX5_costWith 125 = .ok (.iadd, 1) := by decide +kernel
theorem dX5_costWith_126 : decode cX5_costWith 126 = .ok (.iload 9, 2) := by decide +kernel
theorem dX5_costWith_128 : decode cX5_costWith 128 = .ok (.isub, 1) := by decide +kernel
theorem dX5_costWith_129 : decode cX5_costWith 129 = .ok (.ireturn, 1) := by decide +kernel
theorem dX5_findsWith_0 : decode cX5_findsWith 0 = .ok (.iconst 0, 1) := by decide +kernel
theorem dX5_findsWith_1 : decode cX5_findsWith 1 = .ok (.istore 4, 2) := by decide +kernel
theorem dX5_findsWith_3 : decode cX5_findsWith 3 = .ok (.iconst 0, 1) := by decide +kernel
theorem dX5_findsWith_4 : decode cX5_findsWith 4 = .ok (.istore 5, 2) := by decide +kernel
theorem dX5_findsWith_6 : decode cX5_findsWith 6 = .ok (.iload 5, 2) := by decide +kernel
theorem dX5_findsWith_8 : decode cX5_findsWith 8 = .ok (.aload_n 0, 1) := by decide +kernel
theorem dX5_findsWith_9 : decode cX5_findsWith 9 = .ok (.getfield 79, 3) := by decide +kernel
theorem dX5_findsWith_12 : decode cX5_findsWith 12 = .ok (.if_icmp .ge 44, 3) := by decide +kernel
theorem dX5_findsWith_15 : decode cX5_findsWith 15 = .ok (.iload 4, 2) := by decide +kernel
theorem dX5_findsWith_17 : decode cX5_findsWith 17 = .ok (.aload_n 0, 1) := by decide +kernel
theorem dX5_findsWith_18 : decode cX5_findsWith 18 = .ok (.iload_n 3, 1) := by decide +kernel
theorem dX5_findsWith_19 : decode cX5_findsWith 19 = .ok (.iload 5, 2) := by decide +kernel
theorem dX5_findsWith_21 : decode cX5_findsWith 21 = .ok (.invokevirtual 184, 3) := by decide +kernel
theorem dX5_findsWith_24 : decode cX5_findsWith 24 = .ok (.ifCond .eq 22, 3) := by decide +kernel
theorem dX5_findsWith_27 : decode cX5_findsWith 27 = .ok (.aload_n 0, 1) := by decide +kernel
theorem dX5_findsWith_28 : decode cX5_findsWith 28 = .ok (.lload_n 1, 1) := by decide +kernel
theorem dX5_findsWith_29 : decode cX5_findsWith 29 = .ok (.iload_n 3, 1) := by decide +kernel
theorem dX5_findsWith_30 : decode cX5_findsWith 30 = .ok (.iload 5, 2) := by decide +kernel
theorem dX5_findsWith_32 : decode cX5_findsWith 32 = .ok (.invokevirtual 187, 3) := by decide +kernel
theorem dX5_findsWith_35 : decode cX5_findsWith 35 = .ok (.aload_n 0, 1) := by decide +kernel
theorem dX5_findsWith_36 : decode cX5_findsWith 36 = .ok (.getfield 23, 3) := by decide +kernel
theorem dX5_findsWith_39 : decode cX5_findsWith 39 = .ok (.if_icmp .gt 7, 3) := by decide +kernel
theorem dX5_findsWith_42 : decode cX5_findsWith 42 = .ok (.iconst 1, 1) := by decide +kernel
theorem dX5_findsWith_43 : decode cX5_findsWith 43 = .ok (.goto 4, 3) := by decide +kernel
theorem dX5_findsWith_46 : decode cX5_findsWith 46 = .ok (.iconst 0, 1) := by decide +kernel
theorem dX5_findsWith_47 : decode cX5_findsWith 47 = .ok (.iadd, 1) := by decide +kernel
theorem dX5_findsWith_48 : decode cX5_findsWith 48 = .ok (.istore 4, 2) := by decide +kernel
theorem dX5_findsWith_50 : decode cX5_findsWith 50 = .ok (.iinc 5 1, 3) := by decide +kernel
theorem dX5_findsWith_53 : decode cX5_findsWith 53 = .ok (.goto (-47), 3) := by decide +kernel
theorem dX5_findsWith_56 : decode cX5_findsWith 56 = .ok (.iload 4, 2) := by decide +kernel
theorem dX5_findsWith_58 : decode cX5_findsWith 58 = .ok (.ireturn, 1) := by decide +kernel
theorem dX5_cost_0 : decode cX5_cost 0 = .ok (.aload_n 0, 1) := by decide +kernel
theorem dX5_cost_1 : decode cX5_cost 1 = .ok (.iload_n 1, 1) := by decide +kernel
theorem dX5_cost_2 : decode cX5_cost 2 = .ok (.invokevirtual 191, 3) := by decide +kernel
theorem dX5_cost_5 : decode cX5_cost 5 = .ok (.ifCond .eq 11, 3) := by decide +kernel
theorem dX5_cost_8 : decode cX5_cost 8 = .ok (.aload_n 0, 1) := by decide +kernel
theorem dX5_cost_9 : decode cX5_cost 9 = .ok (.iload_n 2, 1) := by decide +kernel
theorem dX5_cost_10 : decode cX5_cost 10 = .ok (.invokevirtual 111, 3) := by decide +kernel
theorem dX5_cost_13 : decode cX5_cost 13 = .ok (.ifCond .ne 7, 3) := by decide +kernel
theorem dX5_cost_16 : decode cX5_cost 16 = .ok (.sipush (-1001), 3) := by decide +kernel
theorem dX5_cost_19 : decode cX5_cost 19 = .ok (.ireturn, 1) := by decide +kernel
theorem dX5_cost_20 : decode cX5_cost 20 = .ok (.aload_n 0, 1) := by decide +kernel
theorem dX5_cost_21 : decode cX5_cost 21 = .ok (.invokevirtual 118, 3) := by decide +kernel
theorem dX5_cost_24 : decode cX5_cost 24 = .ok (.aload_n 0, 1) := by decide +kernel
theorem dX5_cost_25 : decode cX5_cost 25 = .ok (.iload_n 1, 1) := by decide +kernel
theorem dX5_cost_26 : decode cX5_cost 26 = .ok (.iload_n 2, 1) := by decide +kernel
theorem dX5_cost_27 : decode cX5_cost 27 = .ok (.invokevirtual 184, 3) := by decide +kernel
theorem dX5_cost_30 : decode cX5_cost 30 = .ok (.ifCond .eq 18, 3) := by decide +kernel
theorem dX5_cost_33 : decode cX5_cost 33 = .ok (.aload_n 0, 1) := by decide +kernel
theorem dX5_cost_34 : decode cX5_cost 34 = .ok (.aload_n 0, 1) := by decide +kernel
theorem dX5_cost_35 : decode cX5_cost 35 = .ok (.getfield 54, 3) := by decide +kernel
theorem dX5_cost_38 : decode cX5_cost 38 = .ok (.iload_n 1, 1) := by decide +kernel
theorem dX5_cost_39 : decode cX5_cost 39 = .ok (.laload, 1) := by decide +kernel
theorem dX5_cost_40 : decode cX5_cost 40 = .ok (.iload_n 1, 1) := by decide +kernel
theorem dX5_cost_41 : decode cX5_cost 41 = .ok (.iload_n 2, 1) := by decide +kernel
theorem dX5_cost_42 : decode cX5_cost 42 = .ok (.invokevirtual 187, 3) := by decide +kernel
theorem dX5_cost_45 : decode cX5_cost 45 = .ok (.goto 6, 3) := by decide +kernel
theorem dX5_cost_48 : decode cX5_cost 48 = .ok (.sipush (-1003), 3) := by decide +kernel
theorem dX5_cost_51 : decode cX5_cost 51 = .ok (.ireturn, 1) := by decide +kernel
theorem dX5_found_0 : decode cX5_found 0 = .ok (.aload_n 0, 1) := by decide +kernel
theorem dX5_found_1 : decode cX5_found 1 = .ok (.iload_n 1, 1) := by decide +kernel
theorem dX5_found_2 : decode cX5_found 2 = .ok (.invokevirtual 191, 3) := by decide +kernel
theorem dX5_found_5 : decode cX5_found 5 = .ok (.ifCond .ne 7, 3) := by decide +kernel
theorem dX5_found_8 : decode cX5_found 8 = .ok (.sipush (-1001), 3) := by decide +kernel
theorem dX5_found_11 : decode cX5_found 11 = .ok (.ireturn, 1) := by decide +kernel
theorem dX5_found_12 : decode cX5_found 12 = .ok (.iload_n 3, 1) := by decide +kernel
theorem dX5_found_13 : decode cX5_found 13 = .ok (.i2l, 1) := by decide +kernel
theorem dX5_found_14 : decode cX5_found 14 = .ok (.lconst 0, 1) := by decide +kernel
theorem dX5_found_15 : decode cX5_found 15 = .ok (.ldc2_w 194, 3) := by decide +kernel
theorem dX5_found_18 : decode cX5_found 18 = .ok (.invokestatic 82, 3) := by decide +kernel
theorem dX5_found_21 : decode cX5_found 21 = .ok (.ifCond .ne 7, 3) := by decide +kernel
theorem dX5_found_24 : decode cX5_found 24 = .ok (.sipush (-1002), 3) := by decide +kernel
theorem dX5_found_27 : decode cX5_found 27 = .ok (.ireturn, 1) := by decide +kernel
theorem dX5_found_28 : decode cX5_found 28 = .ok (.aload_n 0, 1) := by decide +kernel
theorem dX5_found_29 : decode cX5_found 29 = .ok (.invokevirtual 118, 3) := by decide +kernel
theorem dX5_found_32 : decode cX5_found 32 = .ok (.iconst 0, 1) := by decide +kernel
theorem dX5_found_33 : decode cX5_found 33 = .ok (.istore 4, 2) := by decide +kernel
theorem dX5_found_35 : decode cX5_found 35 = .ok (.iload 4, 2) := by decide +kernel
theorem dX5_found_37 : decode cX5_found 37 = .ok (.aload_n 0, 1) := by decide +kernel
theorem dX5_found_38 : decode cX5_found 38 = .ok (.getfield 79, 3) := by decide +kernel
theorem dX5_found_41 : decode cX5_found 41 = .ok (.if_icmp .ge 180, 3) := by decide +kernel
theorem dX5_found_44 : decode cX5_found 44 = .ok (.aload_n 0, 1) := by decide +kernel
theorem dX5_found_45 : decode cX5_found 45 = .ok (.iload_n 1, 1) := by decide +kernel
theorem dX5_found_46 : decode cX5_found 46 = .ok (.iload 4, 2) := by decide +kernel
theorem dX5_found_48 : decode cX5_found 48 = .ok (.invokevirtual 184, 3) := by decide +kernel
theorem dX5_found_51 : decode cX5_found 51 = .ok (.ifCond .eq 19, 3) := by decide +kernel
theorem dX5_found_54 : decode cX5_found 54 = .ok (.aload_n 0, 1) := by decide +kernel
theorem dX5_found_55 : decode cX5_found 55 = .ok (.aload_n 0, 1) := by decide +kernel
theorem dX5_found_56 : decode cX5_found 56 = .ok (.getfield 54, 3) := by decide +kernel
theorem dX5_found_59 : decode cX5_found 59 = .ok (.iload_n 1, 1) := by decide +kernel
theorem dX5_found_60 : decode cX5_found 60 = .ok (.laload, 1) := by decide +kernel
theorem dX5_found_61 : decode cX5_found 61 = .ok (.iload_n 1, 1) := by decide +kernel
theorem dX5_found_62 : decode cX5_found 62 = .ok (.iload 4, 2) := by decide +kernel
theorem dX5_found_64 : decode cX5_found 64 = .ok (.invokevirtual 187, 3) := by decide +kernel
theorem dX5_found_67 : decode cX5_found 67 = .ok (.goto 9, 3) := by decide +kernel
theorem dX5_found_70 : decode cX5_found 70 = .ok (.aload_n 0, 1) := by decide +kernel
theorem dX5_found_71 : decode cX5_found 71 = .ok (.getfield 23, 3) := by decide +kernel
theorem dX5_found_74 : decode cX5_found 74 = .ok (.iconst 1, 1) := by decide +kernel
theorem dX5_found_75 : decode cX5_found 75 = .ok (.iadd, 1) := by decide +kernel
theorem dX5_found_76 : decode cX5_found 76 = .ok (.istore 5, 2) := by decide +kernel
theorem dX5_found_78 : decode cX5_found 78 = .ok (.iload 5, 2) := by decide +kernel
theorem dX5_found_80 : decode cX5_found 80 = .ok (.aload_n 0, 1) := by decide +kernel
theorem dX5_found_81 : decode cX5_found 81 = .ok (.getfield 23, 3) := by decide +kernel
theorem dX5_found_84 : decode cX5_found 84 = .ok (.if_icmp .gt 131, 3) := by decide +kernel
theorem dX5_found_87 : decode cX5_found 87 = .ok (.iconst 0, 1) := by decide +kernel
theorem dX5_found_88 : decode cX5_found 88 = .ok (.istore 6, 2) := by decide +kernel
theorem dX5_found_90 : decode cX5_found 90 = .ok (.iconst 0, 1) := by decide +kernel
theorem dX5_found_91 : decode cX5_found 91 = .ok (.istore 7, 2) := by decide +kernel
theorem dX5_found_93 : decode cX5_found 93 = .ok (.iload 7, 2) := by decide +kernel
theorem dX5_found_95 : decode cX5_found 95 = .ok (.aload_n 0, 1) := by decide +kernel
theorem dX5_found_96 : decode cX5_found 96 = .ok (.getfield 79, 3) := by decide +kernel
theorem dX5_found_99 : decode cX5_found 99 = .ok (.if_icmp .ge 83, 3) := by decide +kernel
theorem dX5_found_102 : decode cX5_found 102 = .ok (.aload_n 0, 1) := by decide +kernel
theorem dX5_found_103 : decode cX5_found 103 = .ok (.iload_n 1, 1) := by decide +kernel
theorem dX5_found_104 : decode cX5_found 104 = .ok (.iload 7, 2) := by decide +kernel
theorem dX5_found_106 : decode cX5_found 106 = .ok (.invokevirtual 184, 3) := by decide +kernel
theorem dX5_found_109 : decode cX5_found 109 = .ok (.ifCond .eq 19, 3) := by decide +kernel
theorem dX5_found_112 : decode cX5_found 112 = .ok (.aload_n 0, 1) := by decide +kernel
theorem dX5_found_113 : decode cX5_found 113 = .ok (.aload_n 0, 1) := by decide +kernel
theorem dX5_found_114 : decode cX5_found 114 = .ok (.getfield 54, 3) := by decide +kernel
theorem dX5_found_117 : decode cX5_found 117 = .ok (.iload_n 1, 1) := by decide +kernel
theorem dX5_found_118 : decode cX5_found 118 = .ok (.laload, 1) := by decide +kernel
theorem dX5_found_119 : decode cX5_found 119 = .ok (.iload_n 1, 1) := by decide +kernel
theorem dX5_found_120 : decode cX5_found 120 = .ok (.iload 7, 2) := by decide +kernel
theorem dX5_found_122 : decode cX5_found 122 = .ok (.invokevirtual 187, 3) := by decide +kernel
theorem dX5_found_125 : decode cX5_found 125 = .ok (.goto 9, 3) := by decide +kernel
theorem dX5_found_128 : decode cX5_found 128 = .ok (.aload_n 0, 1) := by decide +kernel
theorem dX5_found_129 : decode cX5_found 129 = .ok (.getfield 23, 3) := by decide +kernel
theorem dX5_found_132 : decode cX5_found 132 = .ok (.iconst 1, 1) := by decide +kernel
theorem dX5_found_133 : decode cX5_found 133 = .ok (.iadd, 1) := by decide +kernel
theorem dX5_found_134 : decode cX5_found 134 = .ok (.istore 8, 2) := by decide +kernel
theorem dX5_found_136 : decode cX5_found 136 = .ok (.iload 6, 2) := by decide +kernel
theorem dX5_found_138 : decode cX5_found 138 = .ok (.iload 8, 2) := by decide +kernel
theorem dX5_found_140 : decode cX5_found 140 = .ok (.aload_n 0, 1) := by decide +kernel
theorem dX5_found_141 : decode cX5_found 141 = .ok (.getfield 23, 3) := by decide +kernel
theorem dX5_found_144 : decode cX5_found 144 = .ok (.if_icmp .gt 28, 3) := by decide +kernel
theorem dX5_found_147 : decode cX5_found 147 = .ok (.iload 8, 2) := by decide +kernel
theorem dX5_found_149 : decode cX5_found 149 = .ok (.iload 5, 2) := by decide +kernel
theorem dX5_found_151 : decode cX5_found 151 = .ok (.if_icmp .lt 17, 3) := by decide +kernel
theorem dX5_found_154 : decode cX5_found 154 = .ok (.iload 8, 2) := by decide +kernel
theorem dX5_found_156 : decode cX5_found 156 = .ok (.iload 5, 2) := by decide +kernel
theorem dX5_found_158 : decode cX5_found 158 = .ok (.if_icmp .ne 14, 3) := by decide +kernel
theorem dX5_found_161 : decode cX5_found 161 = .ok (.iload 7, 2) := by decide +kernel
theorem dX5_found_163 : decode cX5_found 163 = .ok (.iload 4, 2) := by decide +kernel
theorem dX5_found_165 : decode cX5_found 165 = .ok (.if_icmp .ge 7, 3) := by decide +kernel
theorem dX5_found_168 : decode cX5_found 168 = .ok (.iconst 1, 1) := by decide +kernel
theorem dX5_found_169 : decode cX5_found 169 = .ok (.goto 4, 3) := by decide +kernel
theorem dX5_found_172 : decode cX5_found 172 = .ok (.iconst 0, 1) := by decide +kernel
theorem dX5_found_173 : decode cX5_found 173 = .ok (.iadd, 1) := by decide +kernel
theorem dX5_found_174 : decode cX5_found 174 = .ok (.istore 6, 2) := by decide +kernel
theorem dX5_found_176 : decode cX5_found 176 = .ok (.iinc 7 1, 3) := by decide +kernel
theorem dX5_found_179 : decode cX5_found 179 = .ok (.goto (-86), 3) := by decide +kernel
theorem dX5_found_182 : decode cX5_found 182 = .ok (.iload 6, 2) := by decide +kernel
theorem dX5_found_184 : decode cX5_found 184 = .ok (.iload_n 2, 1) := by decide +kernel
theorem dX5_found_185 : decode cX5_found 185 = .ok (.if_icmp .ne 30, 3) := by decide +kernel
theorem dX5_found_188 : decode cX5_found 188 = .ok (.iload_n 3, 1) := by decide +kernel
theorem dX5_found_189 : decode cX5_found 189 = .ok (.ifCond .ne 8, 3) := by decide +kernel
theorem dX5_found_192 : decode cX5_found 192 = .ok (.iload 4, 2) := by decide +kernel
theorem dX5_found_194 : decode cX5_found 194 = .ok (.goto 20, 3) := by decide +kernel
theorem dX5_found_197 : decode cX5_found 197 = .ok (.iload_n 3, 1) := by decide +kernel
theorem dX5_found_198 : decode cX5_found 198 = .ok (.iconst 1, 1) := by decide +kernel
theorem dX5_found_199 : decode cX5_found 199 = .ok (.if_icmp .ne 8, 3) := by decide +kernel
theorem dX5_found_202 : decode cX5_found 202 = .ok (.iload 5, 2) := by decide +kernel
theorem dX5_found_204 : decode cX5_found 204 = .ok (.goto 10, 3) := by decide +kernel
theorem dX5_found_207 : decode cX5_found 207 = .ok (.aload_n 0, 1) := by decide +kernel
theorem dX5_found_208 : decode cX5_found 208 = .ok (.iload_n 1, 1) := by decide +kernel
theorem dX5_found_209 : decode cX5_found 209 = .ok (.iload 4, 2) := by decide +kernel
theorem dX5_found_211 : decode cX5_found 211 = .ok (.invokevirtual 180, 3) := by decide +kernel
theorem dX5_found_214 : decode cX5_found 214 = .ok (.ireturn, 1) := by decide +kernel
theorem dX5_found_215 : decode cX5_found 215 = .ok (.iinc 4 1, 3) := by decide +kernel
theorem dX5_found_218 : decode cX5_found 218 = .ok (.goto (-183), 3) := by decide +kernel
theorem dX5_found_221 : decode cX5_found 221 = .ok (.iconst (-1), 1) := by decide +kernel
theorem dX5_found_222 : decode cX5_found 222 = .ok (.ireturn, 1) := by decide +kernel
theorem dX5_findHeaps_0 : decode cX5_findHeaps 0 = .ok (.aload_n 0, 1) := by decide +kernel
theorem dX5_findHeaps_1 : decode cX5_findHeaps 1 = .ok (.invokevirtual 118, 3) := by decide +kernel
theorem dX5_findHeaps_4 : decode cX5_findHeaps 4 = .ok (.iconst 0, 1) := by decide +kernel
theorem dX5_findHeaps_5 : decode cX5_findHeaps 5 = .ok (.istore_n 1, 1) := by decide +kernel
theorem dX5_findHeaps_6 : decode cX5_findHeaps 6 = .ok (.iload_n 1, 1) := by decide +kernel
theorem dX5_findHeaps_7 : decode cX5_findHeaps 7 = .ok (.aload_n 0, 1) := by decide +kernel
theorem dX5_findHeaps_8 : decode cX5_findHeaps 8 = .ok (.getfield 175, 3) := by decide +kernel
theorem dX5_findHeaps_11 : decode cX5_findHeaps 11 = .ok (.if_icmp .ge 34, 3) := by decide +kernel
theorem dX5_findHeaps_14 : decode cX5_findHeaps 14 = .ok (.aload_n 0, 1) := by decide +kernel
theorem dX5_findHeaps_15 : decode cX5_findHeaps 15 = .ok (.getfield 76, 3) := by decide +kernel
theorem dX5_findHeaps_18 : decode cX5_findHeaps 18 = .ok (.iload_n 1, 1) := by decide +kernel
theorem dX5_findHeaps_19 : decode cX5_findHeaps 19 = .ok (.aload_n 0, 1) := by decide +kernel
theorem dX5_findHeaps_20 : decode cX5_findHeaps 20 = .ok (.aload_n 0, 1) := by decide +kernel
theorem dX5_findHeaps_21 : decode cX5_findHeaps 21 = .ok (.getfield 54, 3) := by decide +kernel
theorem dX5_findHeaps_24 : decode cX5_findHeaps 24 = .ok (.iload_n 1, 1) := by decide +kernel
theorem dX5_findHeaps_25 : decode cX5_findHeaps 25 = .ok (.laload, 1) := by decide +kernel
theorem dX5_findHeaps_26 : decode cX5_findHeaps 26 = .ok (.iload_n 1, 1) := by decide +kernel
theorem dX5_findHeaps_27 : decode cX5_findHeaps 27 = .ok (.invokevirtual 196, 3) := by decide +kernel
theorem dX5_findHeaps_30 : decode cX5_findHeaps 30 = .ok (.ifCond .ne 7, 3) := by decide +kernel
theorem dX5_findHeaps_33 : decode cX5_findHeaps 33 = .ok (.iload_n 1, 1) := by decide +kernel
theorem dX5_findHeaps_34 : decode cX5_findHeaps 34 = .ok (.goto 4, 3) := by decide +kernel
theorem dX5_findHeaps_37 : decode cX5_findHeaps 37 = .ok (.iconst (-1), 1) := by decide +kernel
theorem dX5_findHeaps_38 : decode cX5_findHeaps 38 = .ok (.iastore, 1) := by decide +kernel
theorem dX5_findHeaps_39 : decode cX5_findHeaps 39 = .ok (.iinc 1 1, 3) := by decide +kernel
theorem dX5_findHeaps_42 : decode cX5_findHeaps 42 = .ok (.goto (-36), 3) := by decide +kernel
theorem dX5_findHeaps_45 : decode cX5_findHeaps 45 = .ok (.iconst 1, 1) := by decide +kernel
theorem dX5_findHeaps_46 : decode cX5_findHeaps 46 = .ok (.istore_n 1, 1) := by decide +kernel
theorem dX5_findHeaps_47 : decode cX5_findHeaps 47 = .ok (.iload_n 1, 1) := by decide +kernel
theorem dX5_findHeaps_48 : decode cX5_findHeaps 48 = .ok (.ifCond .eq 110, 3) := by decide +kernel
theorem dX5_findHeaps_51 : decode cX5_findHeaps 51 = .ok (.iconst 0, 1) := by decide +kernel
theorem dX5_findHeaps_52 : decode cX5_findHeaps 52 = .ok (.istore_n 1, 1) := by decide +kernel
theorem dX5_findHeaps_53 : decode cX5_findHeaps 53 = .ok (.iconst 0, 1) := by decide +kernel
theorem dX5_findHeaps_54 : decode cX5_findHeaps 54 = .ok (.istore_n 2, 1) := by decide +kernel
theorem dX5_findHeaps_55 : decode cX5_findHeaps 55 = .ok (.iload_n 2, 1) := by decide +kernel
theorem dX5_findHeaps_56 : decode cX5_findHeaps 56 = .ok (.aload_n 0, 1) := by decide +kernel
theorem dX5_findHeaps_57 : decode cX5_findHeaps 57 = .ok (.getfield 175, 3) := by decide +kernel
theorem dX5_findHeaps_60 : decode cX5_findHeaps 60 = .ok (.if_icmp .ge 95, 3) := by decide +kernel
theorem dX5_findHeaps_63 : decode cX5_findHeaps 63 = .ok (.iconst 0, 1) := by decide +kernel
theorem dX5_findHeaps_64 : decode cX5_findHeaps 64 = .ok (.istore_n 3, 1) := by decide +kernel
theorem dX5_findHeaps_65 : decode cX5_findHeaps 65 = .ok (.iload_n 3, 1) := by decide +kernel
theorem dX5_findHeaps_66 : decode cX5_findHeaps 66 = .ok (.aload_n 0, 1) := by decide +kernel
theorem dX5_findHeaps_67 : decode cX5_findHeaps 67 = .ok (.getfield 175, 3) := by decide +kernel
theorem dX5_findHeaps_70 : decode cX5_findHeaps 70 = .ok (.if_icmp .ge 79, 3) := by decide +kernel
theorem dX5_findHeaps_73 : decode cX5_findHeaps 73 = .ok (.aload_n 0, 1) := by decide +kernel
theorem dX5_findHeaps_74 : decode cX5_findHeaps 74 = .ok (.getfield 76, 3) := by decide +kernel
theorem dX5_findHeaps_77 : decode cX5_findHeaps 77 = .ok (.iload_n 2, 1) := by decide +kernel
theorem dX5_findHeaps_78 : decode cX5_findHeaps 78 = .ok (.iaload, 1) := by decide +kernel
theorem dX5_findHeaps_79 : decode cX5_findHeaps 79 = .ok (.ifCond .lt 64, 3) := by decide +kernel
theorem dX5_findHeaps_82 : decode cX5_findHeaps 82 = .ok (.aload_n 0, 1) := by decide +kernel
theorem dX5_findHeaps_83 : decode cX5_findHeaps 83 = .ok (.getfield 76, 3) := by decide +kernel
theorem dX5_findHeaps_86 : decode cX5_findHeaps 86 = .ok (.iload_n 3, 1) := by decide +kernel
theorem dX5_findHeaps_87 : decode cX5_findHeaps 87 = .ok (.iaload, 1) := by decide +kernel
theorem dX5_findHeaps_88 : decode cX5_findHeaps 88 = .ok (.ifCond .lt 55, 3) := by decide +kernel
theorem dX5_findHeaps_91 : decode cX5_findHeaps 91 = .ok (.aload_n 0, 1) := by decide +kernel
theorem dX5_findHeaps_92 : decode cX5_findHeaps 92 = .ok (.getfield 76, 3) := by decide +kernel
theorem dX5_findHeaps_95 : decode cX5_findHeaps 95 = .ok (.iload_n 3, 1) := by decide +kernel
theorem dX5_findHeaps_96 : decode cX5_findHeaps 96 = .ok (.iaload, 1) := by decide +kernel
theorem dX5_findHeaps_97 : decode cX5_findHeaps 97 = .ok (.aload_n 0, 1) := by decide +kernel
theorem dX5_findHeaps_98 : decode cX5_findHeaps 98 = .ok (.getfield 76, 3) := by decide +kernel
theorem dX5_findHeaps_101 : decode cX5_findHeaps 101 = .ok (.iload_n 2, 1) := by decide +kernel
theorem dX5_findHeaps_102 : decode cX5_findHeaps 102 = .ok (.iaload, 1) := by decide +kernel
theorem dX5_findHeaps_103 : decode cX5_findHeaps 103 = .ok (.if_icmp .ge 40, 3) := by decide +kernel
theorem dX5_findHeaps_106 : decode cX5_findHeaps 106 = .ok (.aload_n 0, 1) := by decide +kernel
theorem dX5_findHeaps_107 : decode cX5_findHeaps 107 = .ok (.aload_n 0, 1) := by decide +kernel
theorem dX5_findHeaps_108 : decode cX5_findHeaps 108 = .ok (.getfield 54, 3) := by decide +kernel
theorem dX5_findHeaps_111 : decode cX5_findHeaps 111 = .ok (.iload_n 3, 1) := by decide +kernel
theorem dX5_findHeaps_112 : decode cX5_findHeaps 112 = .ok (.laload, 1) := by decide +kernel
theorem dX5_findHeaps_113 : decode cX5_findHeaps 113 = .ok (.aload_n 0, 1) := by decide +kernel
theorem dX5_findHeaps_114 : decode cX5_findHeaps 114 = .ok (.getfield 54, 3) := by decide +kernel
theorem dX5_findHeaps_117 : decode cX5_findHeaps 117 = .ok (.iload_n 2, 1) := by decide +kernel
theorem dX5_findHeaps_118 : decode cX5_findHeaps 118 = .ok (.laload, 1) := by decide +kernel
theorem dX5_findHeaps_119 : decode cX5_findHeaps 119 = .ok (.invokevirtual 163, 3) := by decide +kernel
theorem dX5_findHeaps_122 : decode cX5_findHeaps 122 = .ok (.aload_n 0, 1) := by decide +kernel
theorem dX5_findHeaps_123 : decode cX5_findHeaps 123 = .ok (.getfield 19, 3) := by decide +kernel
theorem dX5_findHeaps_126 : decode cX5_findHeaps 126 = .ok (.if_icmp .gt 17, 3) := by decide +kernel
theorem dX5_findHeaps_129 : decode cX5_findHeaps 129 = .ok (.aload_n 0, 1) := by decide +kernel
theorem dX5_findHeaps_130 : decode cX5_findHeaps 130 = .ok (.getfield 76, 3) := by decide +kernel
theorem dX5_findHeaps_133 : decode cX5_findHeaps 133 = .ok (.iload_n 2, 1) := by decide +kernel
theorem dX5_findHeaps_134 : decode cX5_findHeaps 134 = .ok (.aload_n 0, 1) := by decide +kernel
theorem dX5_findHeaps_135 : decode cX5_findHeaps 135 = .ok (.getfield 76, 3) := by decide +kernel
theorem dX5_findHeaps_138 : decode cX5_findHeaps 138 = .ok (.iload_n 3, 1) := by decide +kernel
theorem dX5_findHeaps_139 : decode cX5_findHeaps 139 = .ok (.iaload, 1) := by decide +kernel
theorem dX5_findHeaps_140 : decode cX5_findHeaps 140 = .ok (.iastore, 1) := by decide +kernel
theorem dX5_findHeaps_141 : decode cX5_findHeaps 141 = .ok (.iconst 1, 1) := by decide +kernel
theorem dX5_findHeaps_142 : decode cX5_findHeaps 142 = .ok (.istore_n 1, 1) := by decide +kernel
theorem dX5_findHeaps_143 : decode cX5_findHeaps 143 = .ok (.iinc 3 1, 3) := by decide +kernel
theorem dX5_findHeaps_146 : decode cX5_findHeaps 146 = .ok (.goto (-81), 3) := by decide +kernel
theorem dX5_findHeaps_149 : decode cX5_findHeaps 149 = .ok (.iinc 2 1, 3) := by decide +kernel
theorem dX5_findHeaps_152 : decode cX5_findHeaps 152 = .ok (.goto (-97), 3) := by decide +kernel
theorem dX5_findHeaps_155 : decode cX5_findHeaps 155 = .ok (.goto (-108), 3) := by decide +kernel
theorem dX5_findHeaps_158 : decode cX5_findHeaps 158 = .ok (.return_, 1) := by decide +kernel
theorem dX5_heapOf_0 : decode cX5_heapOf 0 = .ok (.aload_n 0, 1) := by decide +kernel
theorem dX5_heapOf_1 : decode cX5_heapOf 1 = .ok (.getfield 76, 3) := by decide +kernel
theorem dX5_heapOf_4 : decode cX5_heapOf 4 = .ok (.iload_n 1, 1) := by decide +kernel
theorem dX5_heapOf_5 : decode cX5_heapOf 5 = .ok (.iaload, 1) := by decide +kernel
theorem dX5_heapOf_6 : decode cX5_heapOf 6 = .ok (.ifCond .ge 5, 3) := by decide +kernel
theorem dX5_heapOf_9 : decode cX5_heapOf 9 = .ok (.iconst (-1), 1) := by decide +kernel
theorem dX5_heapOf_10 : decode cX5_heapOf 10 = .ok (.ireturn, 1) := by decide +kernel
theorem dX5_heapOf_11 : decode cX5_heapOf 11 = .ok (.iconst 0, 1) := by decide +kernel
theorem dX5_heapOf_12 : decode cX5_heapOf 12 = .ok (.istore_n 2, 1) := by decide +kernel
theorem dX5_heapOf_13 : decode cX5_heapOf 13 = .ok (.iconst 0, 1) := by decide +kernel
theorem dX5_heapOf_14 : decode cX5_heapOf 14 = .ok (.istore_n 3, 1) := by decide +kernel
theorem dX5_heapOf_15 : decode cX5_heapOf 15 = .ok (.iload_n 3, 1) := by decide +kernel
theorem dX5_heapOf_16 : decode cX5_heapOf 16 = .ok (.aload_n 0, 1) := by decide +kernel
theorem dX5_heapOf_17 : decode cX5_heapOf 17 = .ok (.getfield 76, 3) := by decide +kernel
theorem dX5_heapOf_20 : decode cX5_heapOf 20 = .ok (.iload_n 1, 1) := by decide +kernel
theorem dX5_heapOf_21 : decode cX5_heapOf 21 = .ok (.iaload, 1) := by decide +kernel
theorem dX5_heapOf_22 : decode cX5_heapOf 22 = .ok (.if_icmp .ge 27, 3) := by decide +kernel
theorem dX5_heapOf_25 : decode cX5_heapOf 25 = .ok (.iload_n 2, 1) := by decide +kernel
theorem dX5_heapOf_26 : decode cX5_heapOf 26 = .ok (.aload_n 0, 1) := by decide +kernel
theorem dX5_heapOf_27 : decode cX5_heapOf 27 = .ok (.getfield 76, 3) := by decide +kernel
theorem dX5_heapOf_30 : decode cX5_heapOf 30 = .ok (.iload_n 3, 1) := by decide +kernel
theorem dX5_heapOf_31 : decode cX5_heapOf 31 = .ok (.iaload, 1) := by decide +kernel
theorem dX5_heapOf_32 : decode cX5_heapOf 32 = .ok (.iload_n 3, 1) := by decide +kernel
theorem dX5_heapOf_33 : decode cX5_heapOf 33 = .ok (.if_icmp .ne 7, 3) := by decide +kernel
theorem dX5_heapOf_36 : decode cX5_heapOf 36 = .ok (.iconst 1, 1) := by decide +kernel
theorem dX5_heapOf_37 : decode cX5_heapOf 37 = .ok (.goto 4, 3) := by decide +kernel
theorem dX5_heapOf_40 : decode cX5_heapOf 40 = .ok (.iconst 0, 1) := by decide +kernel
theorem dX5_heapOf_41 : decode cX5_heapOf 41 = .ok (.iadd, 1) := by decide +kernel
theorem dX5_heapOf_42 : decode cX5_heapOf 42 = .ok (.istore_n 2, 1) := by decide +kernel
theorem dX5_heapOf_43 : decode cX5_heapOf 43 = .ok (.iinc 3 1, 3) := by decide +kernel
theorem dX5_heapOf_46 : decode cX5_heapOf 46 = .ok (.goto (-31), 3) := by decide +kernel
theorem dX5_heapOf_49 : decode cX5_heapOf 49 = .ok (.iload_n 2, 1) := by decide +kernel
theorem dX5_heapOf_50 : decode cX5_heapOf 50 = .ok (.ireturn, 1) := by decide +kernel
theorem dX5_helpOf_0 : decode cX5_helpOf 0 = .ok (.iconst 0, 1) := by decide +kernel
theorem dX5_helpOf_1 : decode cX5_helpOf 1 = .ok (.istore_n 2, 1) := by decide +kernel
theorem dX5_helpOf_2 : decode cX5_helpOf 2 = .ok (.iload_n 2, 1) := by decide +kernel
theorem dX5_helpOf_3 : decode cX5_helpOf 3 = .ok (.bipush 40, 2) := by decide +kernel
theorem dX5_helpOf_5 : decode cX5_helpOf 5 = .ok (.if_icmp .ge 29, 3) := by decide +kernel
theorem dX5_helpOf_8 : decode cX5_helpOf 8 = .ok (.aload_n 0, 1) := by decide +kernel
theorem dX5_helpOf_9 : decode cX5_helpOf 9 = .ok (.aload_n 0, 1) := by decide +kernel
theorem dX5_helpOf_10 : decode cX5_helpOf 10 = .ok (.getfield 54, 3) := by decide +kernel
theorem dX5_helpOf_13 : decode cX5_helpOf 13 = .ok (.iload_n 1, 1) := by decide +kernel
theorem dX5_helpOf_14 : decode cX5_helpOf 14 = .ok (.laload, 1) := by decide +kernel
theorem dX5_helpOf_15 : decode cX5_helpOf 15 = .ok (.lconst 1, 1) := by decide +kernel
theorem dX5_helpOf_16 : decode cX5_helpOf 16 = .ok (.iload_n 2, 1) := by decide +kernel
theorem dX5_helpOf_17 : decode cX5_helpOf 17 = .ok (.lshl, 1) := by decide +kernel
theorem dX5_helpOf_18 : decode cX5_helpOf 18 = .ok (.lor, 1) := by decide +kernel
theorem dX5_helpOf_19 : decode cX5_helpOf 19 = .ok (.iload_n 1, 1) := by decide +kernel
theorem dX5_helpOf_20 : decode cX5_helpOf 20 = .ok (.invokevirtual 196, 3) := by decide +kernel
theorem dX5_helpOf_23 : decode cX5_helpOf 23 = .ok (.ifCond .le 5, 3) := by decide +kernel
theorem dX5_helpOf_26 : decode cX5_helpOf 26 = .ok (.iload_n 2, 1) := by decide +kernel
theorem dX5_helpOf_27 : decode cX5_helpOf 27 = .ok (.ireturn, 1) := by decide +kernel
theorem dX5_helpOf_28 : decode cX5_helpOf 28 = .ok (.iinc 2 1, 3) := by decide +kernel
theorem dX5_helpOf_31 : decode cX5_helpOf 31 = .ok (.goto (-29), 3) := by decide +kernel
theorem dX5_helpOf_34 : decode cX5_helpOf 34 = .ok (.iconst (-1), 1) := by decide +kernel
theorem dX5_helpOf_35 : decode cX5_helpOf 35 = .ok (.ireturn, 1) := by decide +kernel
theorem dX5_asked_0 : decode cX5_asked 0 = .ok (.aload_n 0, 1) := by decide +kernel
theorem dX5_asked_1 : decode cX5_asked 1 = .ok (.iload_n 1, 1) := by decide +kernel
theorem dX5_asked_2 : decode cX5_asked 2 = .ok (.invokevirtual 191, 3) := by decide +kernel
theorem dX5_asked_5 : decode cX5_asked 5 = .ok (.ifCond .ne 7, 3) := by decide +kernel
theorem dX5_asked_8 : decode cX5_asked 8 = .ok (.sipush (-1001), 3) := by decide +kernel
theorem dX5_asked_11 : decode cX5_asked 11 = .ok (.ireturn, 1) := by decide +kernel
theorem dX5_asked_12 : decode cX5_asked 12 = .ok (.iload_n 2, 1) := by decide +kernel
theorem dX5_asked_13 : decode cX5_asked 13 = .ok (.i2l, 1) := by decide +kernel
theorem dX5_asked_14 : decode cX5_asked 14 = .ok (.lconst 0, 1) := by decide +kernel
theorem dX5_asked_15 : decode cX5_asked 15 = .ok (.ldc2_w 150, 3) := by decide +kernel
theorem dX5_asked_18 : decode cX5_asked 18 = .ok (.invokestatic 82, 3) := by decide +kernel
theorem dX5_asked_21 : decode cX5_asked 21 = .ok (.ifCond .ne 7, 3) := by decide +kernel
theorem dX5_asked_24 : decode cX5_asked 24 = .ok (.sipush (-1002), 3) := by decide +kernel
theorem dX5_asked_27 : decode cX5_asked 27 = .ok (.ireturn, 1) := by decide +kernel
theorem dX5_asked_28 : decode cX5_asked 28 = .ok (.aload_n 0, 1) := by decide +kernel
theorem dX5_asked_29 : decode cX5_asked 29 = .ok (.invokevirtual 200, 3) := by decide +kernel
theorem dX5_asked_32 : decode cX5_asked 32 = .ok (.iload_n 2, 1) := by decide +kernel
theorem dX5_asked_33 : decode cX5_asked 33 = .ok (.tableswitch 67 0 2 #[27, 42, 48], 27) := by decide +kernel
theorem dX5_asked_60 : decode cX5_asked 60 = .ok (.aload_n 0, 1) := by decide +kernel
theorem dX5_asked_61 : decode cX5_asked 61 = .ok (.getfield 76, 3) := by decide +kernel
theorem dX5_asked_64 : decode cX5_asked 64 = .ok (.iload_n 1, 1) := by decide +kernel
theorem dX5_asked_65 : decode cX5_asked 65 = .ok (.iaload, 1) := by decide +kernel
theorem dX5_asked_66 : decode cX5_asked 66 = .ok (.ifCond .lt 7, 3) := by decide +kernel
theorem dX5_asked_69 : decode cX5_asked 69 = .ok (.iconst 1, 1) := by decide +kernel
theorem dX5_asked_70 : decode cX5_asked 70 = .ok (.goto 4, 3) := by decide +kernel
theorem dX5_asked_73 : decode cX5_asked 73 = .ok (.iconst 0, 1) := by decide +kernel
theorem dX5_asked_74 : decode cX5_asked 74 = .ok (.ireturn, 1) := by decide +kernel
theorem dX5_asked_75 : decode cX5_asked 75 = .ok (.aload_n 0, 1) := by decide +kernel
theorem dX5_asked_76 : decode cX5_asked 76 = .ok (.iload_n 1, 1) := by decide +kernel
theorem dX5_asked_77 : decode cX5_asked 77 = .ok (.invokevirtual 203, 3) := by decide +kernel
theorem dX5_asked_80 : decode cX5_asked 80 = .ok (.ireturn, 1) := by decide +kernel
theorem dX5_asked_81 : decode cX5_asked 81 = .ok (.aload_n 0, 1) := by decide +kernel
theorem dX5_asked_82 : decode cX5_asked 82 = .ok (.getfield 76, 3) := by decide +kernel
theorem dX5_asked_85 : decode cX5_asked 85 = .ok (.iload_n 1, 1) := by decide +kernel
theorem dX5_asked_86 : decode cX5_asked 86 = .ok (.iaload, 1) := by decide +kernel
theorem dX5_asked_87 : decode cX5_asked 87 = .ok (.ifCond .lt 11, 3) := by decide +kernel
theorem dX5_asked_90 : decode cX5_asked 90 = .ok (.aload_n 0, 1) := by decide +kernel
theorem dX5_asked_91 : decode cX5_asked 91 = .ok (.iload_n 1, 1) := by decide +kernel
theorem dX5_asked_92 : decode cX5_asked 92 = .ok (.invokevirtual 206, 3) := by decide +kernel
theorem dX5_asked_95 : decode cX5_asked 95 = .ok (.goto 4, 3) := by decide +kernel
theorem dX5_asked_98 : decode cX5_asked 98 = .ok (.iconst (-1), 1) := by decide +kernel
theorem dX5_asked_99 : decode cX5_asked 99 = .ok (.ireturn, 1) := by decide +kernel
theorem dX5_asked_100 : decode cX5_asked 100 = .ok (.aload_n 0, 1) := by decide +kernel
theorem dX5_asked_101 : decode cX5_asked 101 = .ok (.aload_n 0, 1) := by decide +kernel
theorem dX5_asked_102 : decode cX5_asked 102 = .ok (.getfield 54, 3) := by decide +kernel
theorem dX5_asked_105 : decode cX5_asked 105 = .ok (.iload_n 1, 1) := by decide +kernel
theorem dX5_asked_106 : decode cX5_asked 106 = .ok (.laload, 1) := by decide +kernel
theorem dX5_asked_107 : decode cX5_asked 107 = .ok (.iload_n 1, 1) := by decide +kernel
theorem dX5_asked_108 : decode cX5_asked 108 = .ok (.invokevirtual 196, 3) := by decide +kernel
theorem dX5_asked_111 : decode cX5_asked 111 = .ok (.ireturn, 1) := by decide +kernel
theorem dX5_counted_0 : decode cX5_counted 0 = .ok (.aload_n 0, 1) := by decide +kernel
theorem dX5_counted_1 : decode cX5_counted 1 = .ok (.getfield 29, 3) := by decide +kernel
theorem dX5_counted_4 : decode cX5_counted 4 = .ok (.iload_n 1, 1) := by decide +kernel
theorem dX5_counted_5 : decode cX5_counted 5 = .ok (.iaload, 1) := by decide +kernel
theorem dX5_counted_6 : decode cX5_counted 6 = .ok (.ifCond .lt 7, 3) := by decide +kernel
theorem dX5_counted_9 : decode cX5_counted 9 = .ok (.iconst 1, 1) := by decide +kernel
theorem dX5_counted_10 : decode cX5_counted 10 = .ok (.goto 4, 3) := by decide +kernel
theorem dX5_counted_13 : decode cX5_counted 13 = .ok (.iconst 0, 1) := by decide +kernel
theorem dX5_counted_14 : decode cX5_counted 14 = .ok (.istore_n 3, 1) := by decide +kernel
theorem dX5_counted_15 : decode cX5_counted 15 = .ok (.iload_n 2, 1) := by decide +kernel
theorem dX5_counted_16 : decode cX5_counted 16 = .ok (.iconst 1, 1) := by decide +kernel
theorem dX5_counted_17 : decode cX5_counted 17 = .ok (.if_icmp .ne 16, 3) := by decide +kernel
theorem dX5_counted_20 : decode cX5_counted 20 = .ok (.iload_n 3, 1) := by decide +kernel
theorem dX5_counted_21 : decode cX5_counted 21 = .ok (.ifCond .ne 12, 3) := by decide +kernel
theorem dX5_counted_24 : decode cX5_counted 24 = .ok (.aload_n 0, 1) := by decide +kernel
theorem dX5_counted_25 : decode cX5_counted 25 = .ok (.getfield 26, 3) := by decide +kernel
theorem dX5_counted_28 : decode cX5_counted 28 = .ok (.iload_n 1, 1) := by decide +kernel
theorem dX5_counted_29 : decode cX5_counted 29 = .ok (.iaload, 1) := by decide +kernel
theorem dX5_counted_30 : decode cX5_counted 30 = .ok (.ifCond .eq 49, 3) := by decide +kernel
theorem dX5_counted_33 : decode cX5_counted 33 = .ok (.iload_n 2, 1) := by decide +kernel
theorem dX5_counted_34 : decode cX5_counted 34 = .ok (.iconst 2, 1) := by decide +kernel
theorem dX5_counted_35 : decode cX5_counted 35 = .ok (.if_icmp .ne 17, 3) := by decide +kernel
theorem dX5_counted_38 : decode cX5_counted 38 = .ok (.iload_n 3, 1) := by decide +kernel
theorem dX5_counted_39 : decode cX5_counted 39 = .ok (.ifCond .ne 13, 3) := by decide +kernel
theorem dX5_counted_42 : decode cX5_counted 42 = .ok (.aload_n 0, 1) := by decide +kernel
theorem dX5_counted_43 : decode cX5_counted 43 = .ok (.getfield 26, 3) := by decide +kernel
theorem dX5_counted_46 : decode cX5_counted 46 = .ok (.iload_n 1, 1) := by decide +kernel
theorem dX5_counted_47 : decode cX5_counted 47 = .ok (.iaload, 1) := by decide +kernel
theorem dX5_counted_48 : decode cX5_counted 48 = .ok (.iconst 1, 1) := by decide +kernel
theorem dX5_counted_49 : decode cX5_counted 49 = .ok (.if_icmp .eq 30, 3) := by decide +kernel
theorem dX5_counted_52 : decode cX5_counted 52 = .ok (.iload_n 2, 1) := by decide +kernel
theorem dX5_counted_53 : decode cX5_counted 53 = .ok (.iconst 3, 1) := by decide +kernel
theorem dX5_counted_54 : decode cX5_counted 54 = .ok (.if_icmp .ne 7, 3) := by decide +kernel
theorem dX5_counted_57 : decode cX5_counted 57 = .ok (.iload_n 3, 1) := by decide +kernel
theorem dX5_counted_58 : decode cX5_counted 58 = .ok (.ifCond .ne 21, 3) := by decide +kernel
theorem dX5_counted_61 : decode cX5_counted 61 = .ok (.iload_n 2, 1) := by decide +kernel
theorem dX5_counted_62 : decode cX5_counted 62 = .ok (.iconst 4, 1) := by decide +kernel
theorem dX5_counted_63 : decode cX5_counted 63 = .ok (.if_icmp .ne 20, 3) := by decide +kernel
theorem dX5_counted_66 : decode cX5_counted 66 = .ok (.iload_n 3, 1) := by decide +kernel
theorem dX5_counted_67 : decode cX5_counted 67 = .ok (.ifCond .ne 16, 3) := by decide +kernel
theorem dX5_counted_70 : decode cX5_counted 70 = .ok (.aload_n 0, 1) := by decide +kernel
theorem dX5_counted_71 : decode cX5_counted 71 = .ok (.getfield 73, 3) := by decide +kernel
theorem dX5_counted_74 : decode cX5_counted 74 = .ok (.iload_n 1, 1) := by decide +kernel
theorem dX5_counted_75 : decode cX5_counted 75 = .ok (.baload, 1) := by decide +kernel
theorem dX5_counted_76 : decode cX5_counted 76 = .ok (.ifCond .eq 7, 3) := by decide +kernel
theorem dX5_counted_79 : decode cX5_counted 79 = .ok (.iconst 1, 1) := by decide +kernel
theorem dX5_counted_80 : decode cX5_counted 80 = .ok (.goto 4, 3) := by decide +kernel
theorem dX5_counted_83 : decode cX5_counted 83 = .ok (.iconst 0, 1) := by decide +kernel
theorem dX5_counted_84 : decode cX5_counted 84 = .ok (.ireturn, 1) := by decide +kernel
theorem dX5_count_0 : decode cX5_count 0 = .ok (.iload_n 1, 1) := by decide +kernel
theorem dX5_count_1 : decode cX5_count 1 = .ok (.i2l, 1) := by decide +kernel
theorem dX5_count_2 : decode cX5_count 2 = .ok (.lconst 0, 1) := by decide +kernel
theorem dX5_count_3 : decode cX5_count 3 = .ok (.ldc2_w 209, 3) := by decide +kernel
theorem dX5_count_6 : decode cX5_count 6 = .ok (.invokestatic 82, 3) := by decide +kernel
theorem dX5_count_9 : decode cX5_count 9 = .ok (.ifCond .ne 7, 3) := by decide +kernel
theorem dX5_count_12 : decode cX5_count 12 = .ok (.sipush (-1002), 3) := by decide +kernel
theorem dX5_count_15 : decode cX5_count 15 = .ok (.ireturn, 1) := by decide +kernel
theorem dX5_count_16 : decode cX5_count 16 = .ok (.aload_n 0, 1) := by decide +kernel
theorem dX5_count_17 : decode cX5_count 17 = .ok (.invokevirtual 200, 3) := by decide +kernel
theorem dX5_count_20 : decode cX5_count 20 = .ok (.iconst 0, 1) := by decide +kernel
theorem dX5_count_21 : decode cX5_count 21 = .ok (.istore_n 2, 1) := by decide +kernel
theorem dX5_count_22 : decode cX5_count 22 = .ok (.iconst 0, 1) := by decide +kernel
theorem dX5_count_23 : decode cX5_count 23 = .ok (.istore_n 3, 1) := by decide +kernel
theorem dX5_count_24 : decode cX5_count 24 = .ok (.iload_n 3, 1) := by decide +kernel
theorem dX5_count_25 : decode cX5_count 25 = .ok (.aload_n 0, 1) := by decide +kernel
theorem dX5_count_26 : decode cX5_count 26 = .ok (.getfield 79, 3) := by decide +kernel
theorem dX5_count_29 : decode cX5_count 29 = .ok (.if_icmp .ge 61, 3) := by decide +kernel
theorem dX5_count_32 : decode cX5_count 32 = .ok (.iload_n 2, 1) := by decide +kernel
theorem dX5_count_33 : decode cX5_count 33 = .ok (.aload_n 0, 1) := by decide +kernel
theorem dX5_count_34 : decode cX5_count 34 = .ok (.iload_n 3, 1) := by decide +kernel
theorem dX5_count_35 : decode cX5_count 35 = .ok (.iload_n 1, 1) := by decide +kernel
theorem dX5_count_36 : decode cX5_count 36 = .ok (.invokevirtual 211, 3) := by decide +kernel
theorem dX5_count_39 : decode cX5_count 39 = .ok (.iadd, 1) := by decide +kernel
theorem dX5_count_40 : decode cX5_count 40 = .ok (.istore_n 2, 1) := by decide +kernel
theorem dX5_count_41 : decode cX5_count 41 = .ok (.iload_n 3, 1) := by decide +kernel
theorem dX5_count_42 : decode cX5_count 42 = .ok (.iconst 1, 1) := by decide +kernel
theorem dX5_count_43 : decode cX5_count 43 = .ok (.iadd, 1) := by decide +kernel
theorem dX5_count_44 : decode cX5_count 44 = .ok (.istore 4, 2) := by decide +kernel
theorem dX5_count_46 : decode cX5_count 46 = .ok (.iload 4, 2) := by decide +kernel
theorem dX5_count_48 : decode cX5_count 48 = .ok (.aload_n 0, 1) := by decide +kernel
theorem dX5_count_49 : decode cX5_count 49 = .ok (.getfield 79, 3) := by decide +kernel
theorem dX5_count_52 : decode cX5_count 52 = .ok (.if_icmp .ge 32, 3) := by decide +kernel
theorem dX5_count_55 : decode cX5_count 55 = .ok (.iload_n 1, 1) := by decide +kernel
theorem dX5_count_56 : decode cX5_count 56 = .ok (.iconst 5, 1) := by decide +kernel
theorem dX5_count_57 : decode cX5_count 57 = .ok (.if_icmp .ne 27, 3) := by decide +kernel
theorem dX5_count_60 : decode cX5_count 60 = .ok (.iload_n 2, 1) := by decide +kernel
theorem dX5_count_61 : decode cX5_count 61 = .ok (.aload_n 0, 1) := by decide +kernel
theorem dX5_count_62 : decode cX5_count 62 = .ok (.iload_n 3, 1) := by decide +kernel
theorem dX5_count_63 : decode cX5_count 63 = .ok (.iload 4, 2) := by decide +kernel
theorem dX5_count_65 : decode cX5_count 65 = .ok (.invokevirtual 169, 3) := by decide +kernel
theorem dX5_count_68 : decode cX5_count 68 = .ok (.ifCond .eq 7, 3) := by decide +kernel
theorem dX5_count_71 : decode cX5_count 71 = .ok (.iconst 1, 1) := by decide +kernel
theorem dX5_count_72 : decode cX5_count 72 = .ok (.goto 4, 3) := by decide +kernel
theorem dX5_count_75 : decode cX5_count 75 = .ok (.iconst 0, 1) := by decide +kernel
theorem dX5_count_76 : decode cX5_count 76 = .ok (.iadd, 1) := by decide +kernel
theorem dX5_count_77 : decode cX5_count 77 = .ok (.istore_n 2, 1) := by decide +kernel
theorem dX5_count_78 : decode cX5_count 78 = .ok (.iinc 4 1, 3) := by decide +kernel
theorem dX5_count_81 : decode cX5_count 81 = .ok (.goto (-35), 3) := by decide +kernel
theorem dX5_count_84 : decode cX5_count 84 = .ok (.iinc 3 1, 3) := by decide +kernel
theorem dX5_count_87 : decode cX5_count 87 = .ok (.goto (-63), 3) := by decide +kernel
theorem dX5_count_90 : decode cX5_count 90 = .ok (.iconst 0, 1) := by decide +kernel
theorem dX5_count_91 : decode cX5_count 91 = .ok (.istore_n 3, 1) := by decide +kernel
theorem dX5_count_92 : decode cX5_count 92 = .ok (.iload_n 3, 1) := by decide +kernel
theorem dX5_count_93 : decode cX5_count 93 = .ok (.aload_n 0, 1) := by decide +kernel
theorem dX5_count_94 : decode cX5_count 94 = .ok (.getfield 175, 3) := by decide +kernel
theorem dX5_count_97 : decode cX5_count 97 = .ok (.if_icmp .ge 48, 3) := by decide +kernel
theorem dX5_count_100 : decode cX5_count 100 = .ok (.iload_n 2, 1) := by decide +kernel
theorem dX5_count_101 : decode cX5_count 101 = .ok (.iload_n 1, 1) := by decide +kernel
theorem dX5_count_102 : decode cX5_count 102 = .ok (.bipush 7, 2) := by decide +kernel
theorem dX5_count_104 : decode cX5_count 104 = .ok (.if_icmp .ne 12, 3) := by decide +kernel
theorem dX5_count_107 : decode cX5_count 107 = .ok (.aload_n 0, 1) := by decide +kernel
theorem dX5_count_108 : decode cX5_count 108 = .ok (.getfield 76, 3) := by decide +kernel
theorem dX5_count_111 : decode cX5_count 111 = .ok (.iload_n 3, 1) := by decide +kernel
theorem dX5_count_112 : decode cX5_count 112 = .ok (.iaload, 1) := by decide +kernel
theorem dX5_count_113 : decode cX5_count 113 = .ok (.ifCond .ge 19, 3) := by decide +kernel
theorem dX5_count_116 : decode cX5_count 116 = .ok (.iload_n 1, 1) := by decide +kernel
theorem dX5_count_117 : decode cX5_count 117 = .ok (.bipush 8, 2) := by decide +kernel
theorem dX5_count_119 : decode cX5_count 119 = .ok (.if_icmp .ne 17, 3) := by decide +kernel
theorem dX5_count_122 : decode cX5_count 122 = .ok (.aload_n 0, 1) := by decide +kernel
theorem dX5_count_123 : decode cX5_count 123 = .ok (.getfield 76, 3) := by decide +kernel
theorem dX5_count_126 : decode cX5_count 126 = .ok (.iload_n 3, 1) := by decide +kernel
theorem dX5_count_127 : decode cX5_count 127 = .ok (.iaload, 1) := by decide +kernel
theorem dX5_count_128 : decode cX5_count 128 = .ok (.iload_n 3, 1) := by decide +kernel
theorem dX5_count_129 : decode cX5_count 129 = .ok (.if_icmp .ne 7, 3) := by decide +kernel
theorem dX5_count_132 : decode cX5_count 132 = .ok (.iconst 1, 1) := by decide +kernel
theorem dX5_count_133 : decode cX5_count 133 = .ok (.goto 4, 3) := by decide +kernel
theorem dX5_count_136 : decode cX5_count 136 = .ok (.iconst 0, 1) := by decide +kernel
theorem dX5_count_137 : decode cX5_count 137 = .ok (.iadd, 1) := by decide +kernel
theorem dX5_count_138 : decode cX5_count 138 = .ok (.istore_n 2, 1) := by decide +kernel
theorem dX5_count_139 : decode cX5_count 139 = .ok (.iinc 3 1, 3) := by decide +kernel
theorem dX5_count_142 : decode cX5_count 142 = .ok (.goto (-50), 3) := by decide +kernel
theorem dX5_count_145 : decode cX5_count 145 = .ok (.iload_n 1, 1) := by decide +kernel
theorem dX5_count_146 : decode cX5_count 146 = .ok (.ifCond .ne 10, 3) := by decide +kernel
theorem dX5_count_149 : decode cX5_count 149 = .ok (.aload_n 0, 1) := by decide +kernel
theorem dX5_count_150 : decode cX5_count 150 = .ok (.getfield 79, 3) := by decide +kernel
theorem dX5_count_153 : decode cX5_count 153 = .ok (.goto 17, 3) := by decide +kernel
theorem dX5_count_156 : decode cX5_count 156 = .ok (.iload_n 1, 1) := by decide +kernel
theorem dX5_count_157 : decode cX5_count 157 = .ok (.bipush 6, 2) := by decide +kernel
theorem dX5_count_159 : decode cX5_count 159 = .ok (.if_icmp .ne 10, 3) := by decide +kernel
theorem dX5_count_162 : decode cX5_count 162 = .ok (.aload_n 0, 1) := by decide +kernel
theorem dX5_count_163 : decode cX5_count 163 = .ok (.getfield 175, 3) := by decide +kernel
theorem dX5_count_166 : decode cX5_count 166 = .ok (.goto 4, 3) := by decide +kernel
theorem dX5_count_169 : decode cX5_count 169 = .ok (.iload_n 2, 1) := by decide +kernel
theorem dX5_count_170 : decode cX5_count 170 = .ok (.ireturn, 1) := by decide +kernel
end
section
theorem dL_law_0 : decode cL_law 0 = .ok (.new 7, 3) := by decide +kernel
theorem dL_law_3 : decode cL_law 3 = .ok (.dup, 1) := by decide +kernel
theorem dL_law_4 : decode cL_law 4 = .ok (.invokespecial 9, 3) := by decide +kernel
theorem dL_law_7 : decode cL_law 7 = .ok (.astore_n 1, 1) := by decide +kernel
theorem dL_law_8 : decode cL_law 8 = .ok (.new 10, 3) := by decide +kernel
theorem dL_law_11 : decode cL_law 11 = .ok (.dup, 1) := by decide +kernel
theorem dL_law_12 : decode cL_law 12 = .ok (.invokespecial 12, 3) := by decide +kernel
theorem dL_law_15 : decode cL_law 15 = .ok (.astore_n 2, 1) := by decide +kernel
theorem dL_law_16 : decode cL_law 16 = .ok (.iconst 0, 1) := by decide +kernel
theorem dL_law_17 : decode cL_law 17 = .ok (.istore_n 3, 1) := by decide +kernel
theorem dL_law_18 : decode cL_law 18 = .ok (.iload_n 3, 1) := by decide +kernel
theorem dL_law_19 : decode cL_law 19 = .ok (.aload_n 0, 1) := by decide +kernel
theorem dL_law_20 : decode cL_law 20 = .ok (.arraylength, 1) := by decide +kernel
theorem dL_law_21 : decode cL_law 21 = .ok (.bipush 7, 2) := by decide +kernel
theorem dL_law_23 : decode cL_law 23 = .ok (.isub, 1) := by decide +kernel
theorem dL_law_24 : decode cL_law 24 = .ok (.if_icmp .gt 872, 3) := by decide +kernel
theorem dL_law_27 : decode cL_law 27 = .ok (.aload_n 0, 1) := by decide +kernel
theorem dL_law_28 : decode cL_law 28 = .ok (.iload_n 3, 1) := by decide +kernel
theorem dL_law_29 : decode cL_law 29 = .ok (.iaload, 1) := by decide +kernel
theorem dL_law_30 : decode cL_law 30 = .ok (.bipush 31, 2) := by decide +kernel
theorem dL_law_32 : decode cL_law 32 = .ok (.iand, 1) := by decide +kernel
theorem dL_law_33 : decode cL_law 33 = .ok (.tableswitch 857 0 18 #[91, 124, 147, 180, 275, 328, 361, 384, 417, 450, 499, 532, 556, 609, 632, 665, 748, 791, 824], 91) := by decide +kernel
theorem dL_law_124 : decode cL_law 124 = .ok (.aload_n 1, 1) := by decide +kernel
theorem dL_law_125 : decode cL_law 125 = .ok (.aload_n 0, 1) := by decide +kernel
theorem dL_law_126 : decode cL_law 126 = .ok (.iload_n 3, 1) := by decide +kernel
theorem dL_law_127 : decode cL_law 127 = .ok (.iconst 1, 1) := by decide +kernel
theorem dL_law_128 : decode cL_law 128 = .ok (.iadd, 1) := by decide +kernel
theorem dL_law_129 : decode cL_law 129 = .ok (.iaload, 1) := by decide +kernel
theorem dL_law_130 : decode cL_law 130 = .ok (.aload_n 0, 1) := by decide +kernel
theorem dL_law_131 : decode cL_law 131 = .ok (.iload_n 3, 1) := by decide +kernel
theorem dL_law_132 : decode cL_law 132 = .ok (.iconst 2, 1) := by decide +kernel
theorem dL_law_133 : decode cL_law 133 = .ok (.iadd, 1) := by decide +kernel
theorem dL_law_134 : decode cL_law 134 = .ok (.iaload, 1) := by decide +kernel
theorem dL_law_135 : decode cL_law 135 = .ok (.invokevirtual 13, 3) := by decide +kernel
theorem dL_law_138 : decode cL_law 138 = .ok (.aload_n 2, 1) := by decide +kernel
theorem dL_law_139 : decode cL_law 139 = .ok (.aload_n 0, 1) := by decide +kernel
theorem dL_law_140 : decode cL_law 140 = .ok (.iload_n 3, 1) := by decide +kernel
theorem dL_law_141 : decode cL_law 141 = .ok (.iconst 1, 1) := by decide +kernel
theorem dL_law_142 : decode cL_law 142 = .ok (.iadd, 1) := by decide +kernel
theorem dL_law_143 : decode cL_law 143 = .ok (.iaload, 1) := by decide +kernel
theorem dL_law_144 : decode cL_law 144 = .ok (.aload_n 0, 1) := by decide +kernel
theorem dL_law_145 : decode cL_law 145 = .ok (.iload_n 3, 1) := by decide +kernel
theorem dL_law_146 : decode cL_law 146 = .ok (.iconst 2, 1) := by decide +kernel
theorem dL_law_147 : decode cL_law 147 = .ok (.iadd, 1) := by decide +kernel
theorem dL_law_148 : decode cL_law 148 = .ok (.iaload, 1) := by decide +kernel
theorem dL_law_149 : decode cL_law 149 = .ok (.invokevirtual 17, 3) := by decide +kernel
theorem dL_law_152 : decode cL_law 152 = .ok (.if_icmp .eq 738, 3) := by decide +kernel
theorem dL_law_155 : decode cL_law 155 = .ok (.iconst 0, 1) := by decide +kernel
theorem dL_law_156 : decode cL_law 156 = .ok (.ireturn, 1) := by decide +kernel
theorem dL_law_157 : decode cL_law 157 = .ok (.aload_n 1, 1) := by decide +kernel
theorem dL_law_158 : decode cL_law 158 = .ok (.aload_n 0, 1) := by decide +kernel
theorem dL_law_159 : decode cL_law 159 = .ok (.iload_n 3, 1) := by decide +kernel
theorem dL_law_160 : decode cL_law 160 = .ok (.iconst 1, 1) := by decide +kernel
theorem dL_law_161 : decode cL_law 161 = .ok (.iadd, 1) := by decide +kernel
theorem dL_law_162 : decode cL_law 162 = .ok (.iaload, 1) := by decide +kernel
theorem dL_law_163 : decode cL_law 163 = .ok (.invokevirtual 18, 3) := by decide +kernel
theorem dL_law_166 : decode cL_law 166 = .ok (.aload_n 2, 1) := by decide +kernel
theorem dL_law_167 : decode cL_law 167 = .ok (.aload_n 0, 1) := by decide +kernel
theorem dL_law_168 : decode cL_law 168 = .ok (.iload_n 3, 1) := by decide +kernel
theorem dL_law_169 : decode cL_law 169 = .ok (.iconst 1, 1) := by decide +kernel
theorem dL_law_170 : decode cL_law 170 = .ok (.iadd, 1) := by decide +kernel
theorem dL_law_171 : decode cL_law 171 = .ok (.iaload, 1) := by decide +kernel
theorem dL_law_172 : decode cL_law 172 = .ok (.invokevirtual 22, 3) := by decide +kernel
theorem dL_law_175 : decode cL_law 175 = .ok (.if_icmp .eq 715, 3) := by decide +kernel
theorem dL_law_178 : decode cL_law 178 = .ok (.iconst 0, 1) := by decide +kernel
theorem dL_law_179 : decode cL_law 179 = .ok (.ireturn, 1) := by decide +kernel
theorem dL_law_180 : decode cL_law 180 = .ok (.aload_n 1, 1) := by decide +kernel
theorem dL_law_181 : decode cL_law 181 = .ok (.aload_n 0, 1) := by decide +kernel
theorem dL_law_182 : decode cL_law 182 = .ok (.iload_n 3, 1) := by decide +kernel
theorem dL_law_183 : decode cL_law 183 = .ok (.iconst 1, 1) := by decide +kernel
theorem dL_law_184 : decode cL_law 184 = .ok (.iadd, 1) := by decide +kernel
theorem dL_law_185 : decode cL_law 185 = .ok (.iaload, 1) := by decide +kernel
theorem dL_law_186 : decode cL_law 186 = .ok (.aload_n 0, 1) := by decide +kernel
theorem dL_law_187 : decode cL_law 187 = .ok (.iload_n 3, 1) := by decide +kernel
theorem dL_law_188 : decode cL_law 188 = .ok (.iconst 2, 1) := by decide +kernel
theorem dL_law_189 : decode cL_law 189 = .ok (.iadd, 1) := by decide +kernel
theorem dL_law_190 : decode cL_law 190 = .ok (.iaload, 1) := by decide +kernel
theorem dL_law_191 : decode cL_law 191 = .ok (.invokevirtual 23, 3) := by decide +kernel
theorem dL_law_194 : decode cL_law 194 = .ok (.aload_n 2, 1) := by decide +kernel
theorem dL_law_195 : decode cL_law 195 = .ok (.aload_n 0, 1) := by decide +kernel
theorem dL_law_196 : decode cL_law 196 = .ok (.iload_n 3, 1) := by decide +kernel
theorem dL_law_197 : decode cL_law 197 = .ok (.iconst 1, 1) := by decide +kernel
theorem dL_law_198 : decode cL_law 198 = .ok (.iadd, 1) := by decide +kernel
theorem dL_law_199 : decode cL_law 199 = .ok (.iaload, 1) := by decide +kernel
theorem dL_law_200 : decode cL_law 200 = .ok (.aload_n 0, 1) := by decide +kernel
theorem dL_law_201 : decode cL_law 201 = .ok (.iload_n 3, 1) := by decide +kernel
theorem dL_law_202 : decode cL_law 202 = .ok (.iconst 2, 1) := by decide +kernel
theorem dL_law_203 : decode cL_law 203 = .ok (.iadd, 1) := by decide +kernel
theorem dL_law_204 : decode cL_law 204 = .ok (.iaload, 1) := by decide +kernel
theorem dL_law_205 : decode cL_law 205 = .ok (.invokevirtual 26, 3) := by decide +kernel
theorem dL_law_208 : decode cL_law 208 = .ok (.if_icmp .eq 682, 3) := by decide +kernel
theorem dL_law_211 : decode cL_law 211 = .ok (.iconst 0, 1) := by decide +kernel
theorem dL_law_212 : decode cL_law 212 = .ok (.ireturn, 1) := by decide +kernel
theorem dL_law_213 : decode cL_law 213 = .ok (.aload_n 1, 1) := by decide +kernel
theorem dL_law_214 : decode cL_law 214 = .ok (.aload_n 0, 1) := by decide +kernel
theorem dL_law_215 : decode cL_law 215 = .ok (.iload_n 3, 1) := by decide +kernel
theorem dL_law_216 : decode cL_law 216 = .ok (.iconst 1, 1) := by decide +kernel
theorem dL_law_217 : decode cL_law 217 = .ok (.iadd, 1) := by decide +kernel
theorem dL_law_218 : decode cL_law 218 = .ok (.iaload, 1) := by decide +kernel
theorem dL_law_219 : decode cL_law 219 = .ok (.i2l, 1) := by decide +kernel
theorem dL_law_220 : decode cL_law 220 = .ok (.bipush 32, 2) := by decide +kernel
theorem dL_law_222 : decode cL_law 222 = .ok (.lshl, 1) := by decide +kernel
theorem dL_law_223 : decode cL_law 223 = .ok (.aload_n 0, 1) := by decide +kernel
theorem dL_law_224 : decode cL_law 224 = .ok (.iload_n 3, 1) := by decide +kernel
theorem dL_law_225 : decode cL_law 225 = .ok (.iconst 2, 1) := by decide +kernel
theorem dL_law_226 : decode cL_law 226 = .ok (.iadd, 1) := by decide +kernel
theorem dL_law_227 : decode cL_law 227 = .ok (.iaload, 1) := by decide +kernel
theorem dL_law_228 : decode cL_law 228 = .ok (.i2l, 1) := by decide +kernel
theorem dL_law_229 : decode cL_law 229 = .ok (.ldc2_w 27, 3) := by decide +kernel
theorem dL_law_232 : decode cL_law 232 = .ok (.land, 1) := by decide +kernel
theorem dL_law_233 : decode cL_law 233 = .ok (.lor, 1) := by decide +kernel
theorem dL_law_234 : decode cL_law 234 = .ok (.aload_n 0, 1) := by decide +kernel
theorem dL_law_235 : decode cL_law 235 = .ok (.iload_n 3, 1) := by decide +kernel
theorem dL_law_236 : decode cL_law 236 = .ok (.iconst 3, 1) := by decide +kernel
theorem dL_law_237 : decode cL_law 237 = .ok (.iadd, 1) := by decide +kernel
theorem dL_law_238 : decode cL_law 238 = .ok (.iaload, 1) := by decide +kernel
theorem dL_law_239 : decode cL_law 239 = .ok (.aload_n 0, 1) := by decide +kernel
theorem dL_law_240 : decode cL_law 240 = .ok (.iload_n 3, 1) := by decide +kernel
theorem dL_law_241 : decode cL_law 241 = .ok (.iconst 4, 1) := by decide +kernel
theorem dL_law_242 : decode cL_law 242 = .ok (.iadd, 1) := by decide +kernel
theorem dL_law_243 : decode cL_law 243 = .ok (.iaload, 1) := by decide +kernel
theorem dL_law_244 : decode cL_law 244 = .ok (.aload_n 0, 1) := by decide +kernel
theorem dL_law_245 : decode cL_law 245 = .ok (.iload_n 3, 1) := by decide +kernel
theorem dL_law_246 : decode cL_law 246 = .ok (.iconst 5, 1) := by decide +kernel
theorem dL_law_247 : decode cL_law 247 = .ok (.iadd, 1) := by decide +kernel
theorem dL_law_248 : decode cL_law 248 = .ok (.iaload, 1) := by decide +kernel
theorem dL_law_249 : decode cL_law 249 = .ok (.aload_n 0, 1) := by decide +kernel
theorem dL_law_250 : decode cL_law 250 = .ok (.iload_n 3, 1) := by decide +kernel
theorem dL_law_251 : decode cL_law 251 = .ok (.bipush 6, 2) := by decide +kernel
theorem dL_law_253 : decode cL_law 253 = .ok (.iadd, 1) := by decide +kernel
theorem dL_law_254 : decode cL_law 254 = .ok (.iaload, 1) := by decide +kernel
theorem dL_law_255 : decode cL_law 255 = .ok (.invokevirtual 29, 3) := by decide +kernel
theorem dL_law_258 : decode cL_law 258 = .ok (.aload_n 2, 1) := by decide +kernel
theorem dL_law_259 : decode cL_law 259 = .ok (.aload_n 0, 1) := by decide +kernel
theorem dL_law_260 : decode cL_law 260 = .ok (.iload_n 3, 1) := by decide +kernel
theorem dL_law_261 : decode cL_law 261 = .ok (.iconst 1, 1) := by decide +kernel
theorem dL_law_262 : decode cL_law 262 = .ok (.iadd, 1) := by decide +kernel
theorem dL_law_263 : decode cL_law 263 = .ok (.iaload, 1) := by decide +kernel
theorem dL_law_264 : decode cL_law 264 = .ok (.i2l, 1) := by decide +kernel
theorem dL_law_265 : decode cL_law 265 = .ok (.bipush 32, 2) := by decide +kernel
theorem dL_law_267 : decode cL_law 267 = .ok (.lshl, 1) := by decide +kernel
theorem dL_law_268 : decode cL_law 268 = .ok (.aload_n 0, 1) := by decide +kernel
theorem dL_law_269 : decode cL_law 269 = .ok (.iload_n 3, 1) := by decide +kernel
theorem dL_law_270 : decode cL_law 270 = .ok (.iconst 2, 1) := by decide +kernel
theorem dL_law_271 : decode cL_law 271 = .ok (.iadd, 1) := by decide +kernel
theorem dL_law_272 : decode cL_law 272 = .ok (.iaload, 1) := by decide +kernel
theorem dL_law_273 : decode cL_law 273 = .ok (.i2l, 1) := by decide +kernel
theorem dL_law_274 : decode cL_law 274 = .ok (.ldc2_w 27, 3) := by decide +kernel
theorem dL_law_277 : decode cL_law 277 = .ok (.land, 1) := by decide +kernel
theorem dL_law_278 : decode cL_law 278 = .ok (.lor, 1) := by decide +kernel
theorem dL_law_279 : decode cL_law 279 = .ok (.aload_n 0, 1) := by decide +kernel
theorem dL_law_280 : decode cL_law 280 = .ok (.iload_n 3, 1) := by decide +kernel
theorem dL_law_281 : decode cL_law 281 = .ok (.iconst 3, 1) := by decide +kernel
theorem dL_law_282 : decode cL_law 282 = .ok (.iadd, 1) := by decide +kernel
theorem dL_law_283 : decode cL_law 283 = .ok (.iaload, 1) := by decide +kernel
theorem dL_law_284 : decode cL_law 284 = .ok (.aload_n 0, 1) := by decide +kernel
theorem dL_law_285 : decode cL_law 285 = .ok (.iload_n 3, 1) := by decide +kernel
theorem dL_law_286 : decode cL_law 286 = .ok (.iconst 4, 1) := by decide +kernel
theorem dL_law_287 : decode cL_law 287 = .ok (.iadd, 1) := by decide +kernel
theorem dL_law_288 : decode cL_law 288 = .ok (.iaload, 1) := by decide +kernel
theorem dL_law_289 : decode cL_law 289 = .ok (.aload_n 0, 1) := by decide +kernel
theorem dL_law_290 : decode cL_law 290 = .ok (.iload_n 3, 1) := by decide +kernel
theorem dL_law_291 : decode cL_law 291 = .ok (.iconst 5, 1) := by decide +kernel
theorem dL_law_292 : decode cL_law 292 = .ok (.iadd, 1) := by decide +kernel
theorem dL_law_293 : decode cL_law 293 = .ok (.iaload, 1) := by decide +kernel
theorem dL_law_294 : decode cL_law 294 = .ok (.aload_n 0, 1) := by decide +kernel
theorem dL_law_295 : decode cL_law 295 = .ok (.iload_n 3, 1) := by decide +kernel
theorem dL_law_296 : decode cL_law 296 = .ok (.bipush 6, 2) := by decide +kernel
theorem dL_law_298 : decode cL_law 298 = .ok (.iadd, 1) := by decide +kernel
theorem dL_law_299 : decode cL_law 299 = .ok (.iaload, 1) := by decide +kernel
theorem dL_law_300 : decode cL_law 300 = .ok (.invokevirtual 33, 3) := by decide +kernel
theorem dL_law_303 : decode cL_law 303 = .ok (.if_icmp .eq 587, 3) := by decide +kernel
theorem dL_law_306 : decode cL_law 306 = .ok (.iconst 0, 1) := by decide +kernel
theorem dL_law_307 : decode cL_law 307 = .ok (.ireturn, 1) := by decide +kernel
theorem dL_law_308 : decode cL_law 308 = .ok (.aload_n 1, 1) := by decide +kernel
theorem dL_law_309 : decode cL_law 309 = .ok (.aload_n 0, 1) := by decide +kernel
theorem dL_law_310 : decode cL_law 310 = .ok (.iload_n 3, 1) := by decide +kernel
theorem dL_law_311 : decode cL_law 311 = .ok (.iconst 1, 1) := by decide +kernel
theorem dL_law_312 : decode cL_law 312 = .ok (.iadd, 1) := by decide +kernel
theorem dL_law_313 : decode cL_law 313 = .ok (.iaload, 1) := by decide +kernel
theorem dL_law_314 : decode cL_law 314 = .ok (.aload_n 0, 1) := by decide +kernel
theorem dL_law_315 : decode cL_law 315 = .ok (.iload_n 3, 1) := by decide +kernel
theorem dL_law_316 : decode cL_law 316 = .ok (.iconst 2, 1) := by decide +kernel
theorem dL_law_317 : decode cL_law 317 = .ok (.iadd, 1) := by decide +kernel
theorem dL_law_318 : decode cL_law 318 = .ok (.iaload, 1) := by decide +kernel
theorem dL_law_319 : decode cL_law 319 = .ok (.aload_n 0, 1) := by decide +kernel
theorem dL_law_320 : decode cL_law 320 = .ok (.iload_n 3, 1) := by decide +kernel
theorem dL_law_321 : decode cL_law 321 = .ok (.iconst 3, 1) := by decide +kernel
theorem dL_law_322 : decode cL_law 322 = .ok (.iadd, 1) := by decide +kernel
theorem dL_law_323 : decode cL_law 323 = .ok (.iaload, 1) := by decide +kernel
theorem dL_law_324 : decode cL_law 324 = .ok (.aload_n 0, 1) := by decide +kernel
theorem dL_law_325 : decode cL_law 325 = .ok (.iload_n 3, 1) := by decide +kernel
theorem dL_law_326 : decode cL_law 326 = .ok (.iconst 4, 1) := by decide +kernel
theorem dL_law_327 : decode cL_law 327 = .ok (.iadd, 1) := by decide +kernel
theorem dL_law_328 : decode cL_law 328 = .ok (.iaload, 1) := by decide +kernel
theorem dL_law_329 : decode cL_law 329 = .ok (.invokevirtual 34, 3) := by decide +kernel
theorem dL_law_332 : decode cL_law 332 = .ok (.aload_n 2, 1) := by decide +kernel
theorem dL_law_333 : decode cL_law 333 = .ok (.aload_n 0, 1) := by decide +kernel
theorem dL_law_334 : decode cL_law 334 = .ok (.iload_n 3, 1) := by decide +kernel
theorem dL_law_335 : decode cL_law 335 = .ok (.iconst 1, 1) := by decide +kernel
theorem dL_law_336 : decode cL_law 336 = .ok (.iadd, 1) := by decide +kernel
theorem dL_law_337 : decode cL_law 337 = .ok (.iaload, 1) := by decide +kernel
theorem dL_law_338 : decode cL_law 338 = .ok (.aload_n 0, 1) := by decide +kernel
theorem dL_law_339 : decode cL_law 339 = .ok (.iload_n 3, 1) := by decide +kernel
theorem dL_law_340 : decode cL_law 340 = .ok (.iconst 2, 1) := by decide +kernel
theorem dL_law_341 : decode cL_law 341 = .ok (.iadd, 1) := by decide +kernel
theorem dL_law_342 : decode cL_law 342 = .ok (.iaload, 1) := by decide +kernel
theorem dL_law_343 : decode cL_law 343 = .ok (.aload_n 0, 1) := by decide +kernel
theorem dL_law_344 : decode cL_law 344 = .ok (.iload_n 3, 1) := by decide +kernel
theorem dL_law_345 : decode cL_law 345 = .ok (.iconst 3, 1) := by decide +kernel
theorem dL_law_346 : decode cL_law 346 = .ok (.iadd, 1) := by decide +kernel
theorem dL_law_347 : decode cL_law 347 = .ok (.iaload, 1) := by decide +kernel
theorem dL_law_348 : decode cL_law 348 = .ok (.aload_n 0, 1) := by decide +kernel
theorem dL_law_349 : decode cL_law 349 = .ok (.iload_n 3, 1) := by decide +kernel
theorem dL_law_350 : decode cL_law 350 = .ok (.iconst 4, 1) := by decide +kernel
theorem dL_law_351 : decode cL_law 351 = .ok (.iadd, 1) := by decide +kernel
theorem dL_law_352 : decode cL_law 352 = .ok (.iaload, 1) := by decide +kernel
theorem dL_law_353 : decode cL_law 353 = .ok (.invokevirtual 38, 3) := by decide +kernel
theorem dL_law_356 : decode cL_law 356 = .ok (.if_icmp .eq 534, 3) := by decide +kernel
theorem dL_law_359 : decode cL_law 359 = .ok (.iconst 0, 1) := by decide +kernel
theorem dL_law_360 : decode cL_law 360 = .ok (.ireturn, 1) := by decide +kernel
theorem dL_law_361 : decode cL_law 361 = .ok (.aload_n 1, 1) := by decide +kernel
theorem dL_law_362 : decode cL_law 362 = .ok (.aload_n 0, 1) := by decide +kernel
theorem dL_law_363 : decode cL_law 363 = .ok (.iload_n 3, 1) := by decide +kernel
theorem dL_law_364 : decode cL_law 364 = .ok (.iconst 1, 1) := by decide +kernel
theorem dL_law_365 : decode cL_law 365 = .ok (.iadd, 1) := by decide +kernel
theorem dL_law_366 : decode cL_law 366 = .ok (.iaload, 1) := by decide +kernel
theorem dL_law_367 : decode cL_law 367 = .ok (.aload_n 0, 1) := by decide +kernel
theorem dL_law_368 : decode cL_law 368 = .ok (.iload_n 3, 1) := by decide +kernel
theorem dL_law_369 : decode cL_law 369 = .ok (.iconst 2, 1) := by decide +kernel
theorem dL_law_370 : decode cL_law 370 = .ok (.iadd, 1) := by decide +kernel
theorem dL_law_371 : decode cL_law 371 = .ok (.iaload, 1) := by decide +kernel
theorem dL_law_372 : decode cL_law 372 = .ok (.invokevirtual 39, 3) := by decide +kernel
theorem dL_law_375 : decode cL_law 375 = .ok (.aload_n 2, 1) := by decide +kernel
theorem dL_law_376 : decode cL_law 376 = .ok (.aload_n 0, 1) := by decide +kernel
theorem dL_law_377 : decode cL_law 377 = .ok (.iload_n 3, 1) := by decide +kernel
theorem dL_law_378 : decode cL_law 378 = .ok (.iconst 1, 1) := by decide +kernel
theorem dL_law_379 : decode cL_law 379 = .ok (.iadd, 1) := by decide +kernel
theorem dL_law_380 : decode cL_law 380 = .ok (.iaload, 1) := by decide +kernel
theorem dL_law_381 : decode cL_law 381 = .ok (.aload_n 0, 1) := by decide +kernel
theorem dL_law_382 : decode cL_law 382 = .ok (.iload_n 3, 1) := by decide +kernel
theorem dL_law_383 : decode cL_law 383 = .ok (.iconst 2, 1) := by decide +kernel
theorem dL_law_384 : decode cL_law 384 = .ok (.iadd, 1) := by decide +kernel
theorem dL_law_385 : decode cL_law 385 = .ok (.iaload, 1) := by decide +kernel
theorem dL_law_386 : decode cL_law 386 = .ok (.invokevirtual 42, 3) := by decide +kernel
theorem dL_law_389 : decode cL_law 389 = .ok (.if_icmp .eq 501, 3) := by decide +kernel
theorem dL_law_392 : decode cL_law 392 = .ok (.iconst 0, 1) := by decide +kernel
theorem dL_law_393 : decode cL_law 393 = .ok (.ireturn, 1) := by decide +kernel
theorem dL_law_394 : decode cL_law 394 = .ok (.aload_n 1, 1) := by decide +kernel
theorem dL_law_395 : decode cL_law 395 = .ok (.aload_n 0, 1) := by decide +kernel
theorem dL_law_396 : decode cL_law 396 = .ok (.iload_n 3, 1) := by decide +kernel
theorem dL_law_397 : decode cL_law 397 = .ok (.iconst 1, 1) := by decide +kernel
theorem dL_law_398 : decode cL_law 398 = .ok (.iadd, 1) := by decide +kernel
theorem dL_law_399 : decode cL_law 399 = .ok (.iaload, 1) := by decide +kernel
theorem dL_law_400 : decode cL_law 400 = .ok (.invokevirtual 43, 3) := by decide +kernel
theorem dL_law_403 : decode cL_law 403 = .ok (.aload_n 2, 1) := by decide +kernel
theorem dL_law_404 : decode cL_law 404 = .ok (.aload_n 0, 1) := by decide +kernel
theorem dL_law_405 : decode cL_law 405 = .ok (.iload_n 3, 1) := by decide +kernel
theorem dL_law_406 : decode cL_law 406 = .ok (.iconst 1, 1) := by decide +kernel
theorem dL_law_407 : decode cL_law 407 = .ok (.iadd, 1) := by decide +kernel
theorem dL_law_408 : decode cL_law 408 = .ok (.iaload, 1) := by decide +kernel
theorem dL_law_409 : decode cL_law 409 = .ok (.invokevirtual 46, 3) := by decide +kernel
theorem dL_law_412 : decode cL_law 412 = .ok (.if_icmp .eq 478, 3) := by decide +kernel
theorem dL_law_415 : decode cL_law 415 = .ok (.iconst 0, 1) := by decide +kernel
theorem dL_law_416 : decode cL_law 416 = .ok (.ireturn, 1) := by decide +kernel
theorem dL_law_417 : decode cL_law 417 = .ok (.aload_n 1, 1) := by decide +kernel
theorem dL_law_418 : decode cL_law 418 = .ok (.aload_n 0, 1) := by decide +kernel
theorem dL_law_419 : decode cL_law 419 = .ok (.iload_n 3, 1) := by decide +kernel
theorem dL_law_420 : decode cL_law 420 = .ok (.iconst 1, 1) := by decide +kernel
theorem dL_law_421 : decode cL_law 421 = .ok (.iadd, 1) := by decide +kernel
theorem dL_law_422 : decode cL_law 422 = .ok (.iaload, 1) := by decide +kernel
theorem dL_law_423 : decode cL_law 423 = .ok (.aload_n 0, 1) := by decide +kernel
theorem dL_law_424 : decode cL_law 424 = .ok (.iload_n 3, 1) := by decide +kernel
theorem dL_law_425 : decode cL_law 425 = .ok (.iconst 2, 1) := by decide +kernel
theorem dL_law_426 : decode cL_law 426 = .ok (.iadd, 1) := by decide +kernel
theorem dL_law_427 : decode cL_law 427 = .ok (.iaload, 1) := by decide +kernel
theorem dL_law_428 : decode cL_law 428 = .ok (.invokevirtual 47, 3) := by decide +kernel
theorem dL_law_431 : decode cL_law 431 = .ok (.aload_n 2, 1) := by decide +kernel
theorem dL_law_432 : decode cL_law 432 = .ok (.aload_n 0, 1) := by decide +kernel
theorem dL_law_433 : decode cL_law 433 = .ok (.iload_n 3, 1) := by decide +kernel
theorem dL_law_434 : decode cL_law 434 = .ok (.iconst 1, 1) := by decide +kernel
theorem dL_law_435 : decode cL_law 435 = .ok (.iadd, 1) := by decide +kernel
theorem dL_law_436 : decode cL_law 436 = .ok (.iaload, 1) := by decide +kernel
theorem dL_law_437 : decode cL_law 437 = .ok (.aload_n 0, 1) := by decide +kernel
theorem dL_law_438 : decode cL_law 438 = .ok (.iload_n 3, 1) := by decide +kernel
theorem dL_law_439 : decode cL_law 439 = .ok (.iconst 2, 1) := by decide +kernel
theorem dL_law_440 : decode cL_law 440 = .ok (.iadd, 1) := by decide +kernel
theorem dL_law_441 : decode cL_law 441 = .ok (.iaload, 1) := by decide +kernel
theorem dL_law_442 : decode cL_law 442 = .ok (.invokevirtual 50, 3) := by decide +kernel
theorem dL_law_445 : decode cL_law 445 = .ok (.if_icmp .eq 445, 3) := by decide +kernel
theorem dL_law_448 : decode cL_law 448 = .ok (.iconst 0, 1) := by decide +kernel
theorem dL_law_449 : decode cL_law 449 = .ok (.ireturn, 1) := by decide +kernel
theorem dL_law_450 : decode cL_law 450 = .ok (.aload_n 1, 1) := by decide +kernel
theorem dL_law_451 : decode cL_law 451 = .ok (.aload_n 0, 1) := by decide +kernel
theorem dL_law_452 : decode cL_law 452 = .ok (.iload_n 3, 1) := by decide +kernel
theorem dL_law_453 : decode cL_law 453 = .ok (.iconst 1, 1) := by decide +kernel
theorem dL_law_454 : decode cL_law 454 = .ok (.iadd, 1) := by decide +kernel
theorem dL_law_455 : decode cL_law 455 = .ok (.iaload, 1) := by decide +kernel
theorem dL_law_456 : decode cL_law 456 = .ok (.aload_n 0, 1) := by decide +kernel
theorem dL_law_457 : decode cL_law 457 = .ok (.iload_n 3, 1) := by decide +kernel
theorem dL_law_458 : decode cL_law 458 = .ok (.iconst 2, 1) := by decide +kernel
theorem dL_law_459 : decode cL_law 459 = .ok (.iadd, 1) := by decide +kernel
theorem dL_law_460 : decode cL_law 460 = .ok (.iaload, 1) := by decide +kernel
theorem dL_law_461 : decode cL_law 461 = .ok (.invokevirtual 51, 3) := by decide +kernel
theorem dL_law_464 : decode cL_law 464 = .ok (.aload_n 2, 1) := by decide +kernel
theorem dL_law_465 : decode cL_law 465 = .ok (.aload_n 0, 1) := by decide +kernel
theorem dL_law_466 : decode cL_law 466 = .ok (.iload_n 3, 1) := by decide +kernel
theorem dL_law_467 : decode cL_law 467 = .ok (.iconst 1, 1) := by decide +kernel
theorem dL_law_468 : decode cL_law 468 = .ok (.iadd, 1) := by decide +kernel
theorem dL_law_469 : decode cL_law 469 = .ok (.iaload, 1) := by decide +kernel
theorem dL_law_470 : decode cL_law 470 = .ok (.aload_n 0, 1) := by decide +kernel
theorem dL_law_471 : decode cL_law 471 = .ok (.iload_n 3, 1) := by decide +kernel
theorem dL_law_472 : decode cL_law 472 = .ok (.iconst 2, 1) := by decide +kernel
theorem dL_law_473 : decode cL_law 473 = .ok (.iadd, 1) := by decide +kernel
theorem dL_law_474 : decode cL_law 474 = .ok (.iaload, 1) := by decide +kernel
theorem dL_law_475 : decode cL_law 475 = .ok (.invokevirtual 54, 3) := by decide +kernel
theorem dL_law_478 : decode cL_law 478 = .ok (.if_icmp .eq 412, 3) := by decide +kernel
theorem dL_law_481 : decode cL_law 481 = .ok (.iconst 0, 1) := by decide +kernel
theorem dL_law_482 : decode cL_law 482 = .ok (.ireturn, 1) := by decide +kernel
theorem dL_law_483 : decode cL_law 483 = .ok (.aload_n 1, 1) := by decide +kernel
theorem dL_law_484 : decode cL_law 484 = .ok (.aload_n 0, 1) := by decide +kernel
theorem dL_law_485 : decode cL_law 485 = .ok (.iload_n 3, 1) := by decide +kernel
theorem dL_law_486 : decode cL_law 486 = .ok (.iconst 1, 1) := by decide +kernel
theorem dL_law_487 : decode cL_law 487 = .ok (.iadd, 1) := by decide +kernel
theorem dL_law_488 : decode cL_law 488 = .ok (.iaload, 1) := by decide +kernel
theorem dL_law_489 : decode cL_law 489 = .ok (.aload_n 0, 1) := by decide +kernel
theorem dL_law_490 : decode cL_law 490 = .ok (.iload_n 3, 1) := by decide +kernel
theorem dL_law_491 : decode cL_law 491 = .ok (.iconst 2, 1) := by decide +kernel
theorem dL_law_492 : decode cL_law 492 = .ok (.iadd, 1) := by decide +kernel
theorem dL_law_493 : decode cL_law 493 = .ok (.iaload, 1) := by decide +kernel
theorem dL_law_494 : decode cL_law 494 = .ok (.ifCond .eq 7, 3) := by decide +kernel
theorem dL_law_497 : decode cL_law 497 = .ok (.iconst 1, 1) := by decide +kernel
theorem dL_law_498 : decode cL_law 498 = .ok (.goto 4, 3) := by decide +kernel
theorem dL_law_501 : decode cL_law 501 = .ok (.iconst 0, 1) := by decide +kernel
theorem dL_law_502 : decode cL_law 502 = .ok (.invokevirtual 55, 3) := by decide +kernel
theorem dL_law_505 : decode cL_law 505 = .ok (.aload_n 2, 1) := by decide +kernel
theorem dL_law_506 : decode cL_law 506 = .ok (.aload_n 0, 1) := by decide +kernel
theorem dL_law_507 : decode cL_law 507 = .ok (.iload_n 3, 1) := by decide +kernel
theorem dL_law_508 : decode cL_law 508 = .ok (.iconst 1, 1) := by decide +kernel
theorem dL_law_509 : decode cL_law 509 = .ok (.iadd, 1) := by decide +kernel
theorem dL_law_510 : decode cL_law 510 = .ok (.iaload, 1) := by decide +kernel
theorem dL_law_511 : decode cL_law 511 = .ok (.aload_n 0, 1) := by decide +kernel
theorem dL_law_512 : decode cL_law 512 = .ok (.iload_n 3, 1) := by decide +kernel
theorem dL_law_513 : decode cL_law 513 = .ok (.iconst 2, 1) := by decide +kernel
theorem dL_law_514 : decode cL_law 514 = .ok (.iadd, 1) := by decide +kernel
theorem dL_law_515 : decode cL_law 515 = .ok (.iaload, 1) := by decide +kernel
theorem dL_law_516 : decode cL_law 516 = .ok (.ifCond .eq 7, 3) := by decide +kernel
theorem dL_law_519 : decode cL_law 519 = .ok (.iconst 1, 1) := by decide +kernel
theorem dL_law_520 : decode cL_law 520 = .ok (.goto 4, 3) := by decide +kernel
theorem dL_law_523 : decode cL_law 523 = .ok (.iconst 0, 1) := by decide +kernel
theorem dL_law_524 : decode cL_law 524 = .ok (.invokevirtual 59, 3) := by decide +kernel
theorem dL_law_527 : decode cL_law 527 = .ok (.if_icmp .eq 363, 3) := by decide +kernel
theorem dL_law_530 : decode cL_law 530 = .ok (.iconst 0, 1) := by decide +kernel
theorem dL_law_531 : decode cL_law 531 = .ok (.ireturn, 1) := by decide +kernel
theorem dL_law_532 : decode cL_law 532 = .ok (.aload_n 1, 1) := by decide +kernel
theorem dL_law_533 : decode cL_law 533 = .ok (.aload_n 0, 1) := by decide +kernel
theorem dL_law_534 : decode cL_law 534 = .ok (.iload_n 3, 1) := by decide +kernel
theorem dL_law_535 : decode cL_law 535 = .ok (.iconst 1, 1) := by decide +kernel
theorem dL_law_536 : decode cL_law 536 = .ok (.iadd, 1) := by decide +kernel
theorem dL_law_537 : decode cL_law 537 = .ok (.iaload, 1) := by decide +kernel
theorem dL_law_538 : decode cL_law 538 = .ok (.aload_n 0, 1) := by decide +kernel
theorem dL_law_539 : decode cL_law 539 = .ok (.iload_n 3, 1) := by decide +kernel
theorem dL_law_540 : decode cL_law 540 = .ok (.iconst 2, 1) := by decide +kernel
theorem dL_law_541 : decode cL_law 541 = .ok (.iadd, 1) := by decide +kernel
theorem dL_law_542 : decode cL_law 542 = .ok (.iaload, 1) := by decide +kernel
theorem dL_law_543 : decode cL_law 543 = .ok (.invokevirtual 60, 3) := by decide +kernel
theorem dL_law_546 : decode cL_law 546 = .ok (.aload_n 2, 1) := by decide +kernel
theorem dL_law_547 : decode cL_law 547 = .ok (.aload_n 0, 1) := by decide +kernel
theorem dL_law_548 : decode cL_law 548 = .ok (.iload_n 3, 1) := by decide +kernel
theorem dL_law_549 : decode cL_law 549 = .ok (.iconst 1, 1) := by decide +kernel
theorem dL_law_550 : decode cL_law 550 = .ok (.iadd, 1) := by decide +kernel
theorem dL_law_551 : decode cL_law 551 = .ok (.iaload, 1) := by decide +kernel
theorem dL_law_552 : decode cL_law 552 = .ok (.aload_n 0, 1) := by decide +kernel
theorem dL_law_553 : decode cL_law 553 = .ok (.iload_n 3, 1) := by decide +kernel
theorem dL_law_554 : decode cL_law 554 = .ok (.iconst 2, 1) := by decide +kernel
theorem dL_law_555 : decode cL_law 555 = .ok (.iadd, 1) := by decide +kernel
theorem dL_law_556 : decode cL_law 556 = .ok (.iaload, 1) := by decide +kernel
theorem dL_law_557 : decode cL_law 557 = .ok (.invokevirtual 63, 3) := by decide +kernel
theorem dL_law_560 : decode cL_law 560 = .ok (.if_icmp .eq 330, 3) := by decide +kernel
theorem dL_law_563 : decode cL_law 563 = .ok (.iconst 0, 1) := by decide +kernel
theorem dL_law_564 : decode cL_law 564 = .ok (.ireturn, 1) := by decide +kernel
theorem dL_law_565 : decode cL_law 565 = .ok (.aload_n 1, 1) := by decide +kernel
theorem dL_law_566 : decode cL_law 566 = .ok (.aload_n 0, 1) := by decide +kernel
theorem dL_law_567 : decode cL_law 567 = .ok (.iload_n 3, 1) := by decide +kernel
theorem dL_law_568 : decode cL_law 568 = .ok (.iconst 1, 1) := by decide +kernel
theorem dL_law_569 : decode cL_law 569 = .ok (.iadd, 1) := by decide +kernel
theorem dL_law_570 : decode cL_law 570 = .ok (.iaload, 1) := by decide +kernel
theorem dL_law_571 : decode cL_law 571 = .ok (.invokevirtual 64, 3) := by decide +kernel
theorem dL_law_574 : decode cL_law 574 = .ok (.aload_n 2, 1) := by decide +kernel
theorem dL_law_575 : decode cL_law 575 = .ok (.aload_n 0, 1) := by decide +kernel
theorem dL_law_576 : decode cL_law 576 = .ok (.iload_n 3, 1) := by decide +kernel
theorem dL_law_577 : decode cL_law 577 = .ok (.iconst 1, 1) := by decide +kernel
theorem dL_law_578 : decode cL_law 578 = .ok (.iadd, 1) := by decide +kernel
theorem dL_law_579 : decode cL_law 579 = .ok (.iaload, 1) := by decide +kernel
theorem dL_law_580 : decode cL_law 580 = .ok (.invokevirtual 68, 3) := by decide +kernel
theorem dL_law_583 : decode cL_law 583 = .ok (.lcmp, 1) := by decide +kernel
theorem dL_law_584 : decode cL_law 584 = .ok (.ifCond .eq 306, 3) := by decide +kernel
theorem dL_law_587 : decode cL_law 587 = .ok (.iconst 0, 1) := by decide +kernel
theorem dL_law_588 : decode cL_law 588 = .ok (.ireturn, 1) := by decide +kernel
theorem dL_law_589 : decode cL_law 589 = .ok (.aload_n 1, 1) := by decide +kernel
theorem dL_law_590 : decode cL_law 590 = .ok (.aload_n 0, 1) := by decide +kernel
theorem dL_law_591 : decode cL_law 591 = .ok (.iload_n 3, 1) := by decide +kernel
theorem dL_law_592 : decode cL_law 592 = .ok (.iconst 1, 1) := by decide +kernel
theorem dL_law_593 : decode cL_law 593 = .ok (.iadd, 1) := by decide +kernel
theorem dL_law_594 : decode cL_law 594 = .ok (.iaload, 1) := by decide +kernel
theorem dL_law_595 : decode cL_law 595 = .ok (.aload_n 0, 1) := by decide +kernel
theorem dL_law_596 : decode cL_law 596 = .ok (.iload_n 3, 1) := by decide +kernel
theorem dL_law_597 : decode cL_law 597 = .ok (.iconst 2, 1) := by decide +kernel
theorem dL_law_598 : decode cL_law 598 = .ok (.iadd, 1) := by decide +kernel
theorem dL_law_599 : decode cL_law 599 = .ok (.iaload, 1) := by decide +kernel
theorem dL_law_600 : decode cL_law 600 = .ok (.aload_n 0, 1) := by decide +kernel
theorem dL_law_601 : decode cL_law 601 = .ok (.iload_n 3, 1) := by decide +kernel
theorem dL_law_602 : decode cL_law 602 = .ok (.iconst 3, 1) := by decide +kernel
theorem dL_law_603 : decode cL_law 603 = .ok (.iadd, 1) := by decide +kernel
theorem dL_law_604 : decode cL_law 604 = .ok (.iaload, 1) := by decide +kernel
theorem dL_law_605 : decode cL_law 605 = .ok (.aload_n 0, 1) := by decide +kernel
theorem dL_law_606 : decode cL_law 606 = .ok (.iload_n 3, 1) := by decide +kernel
theorem dL_law_607 : decode cL_law 607 = .ok (.iconst 4, 1) := by decide +kernel
theorem dL_law_608 : decode cL_law 608 = .ok (.iadd, 1) := by decide +kernel
theorem dL_law_609 : decode cL_law 609 = .ok (.iaload, 1) := by decide +kernel
theorem dL_law_610 : decode cL_law 610 = .ok (.invokevirtual 69, 3) := by decide +kernel
theorem dL_law_613 : decode cL_law 613 = .ok (.aload_n 2, 1) := by decide +kernel
theorem dL_law_614 : decode cL_law 614 = .ok (.aload_n 0, 1) := by decide +kernel
theorem dL_law_615 : decode cL_law 615 = .ok (.iload_n 3, 1) := by decide +kernel
theorem dL_law_616 : decode cL_law 616 = .ok (.iconst 1, 1) := by decide +kernel
theorem dL_law_617 : decode cL_law 617 = .ok (.iadd, 1) := by decide +kernel
theorem dL_law_618 : decode cL_law 618 = .ok (.iaload, 1) := by decide +kernel
theorem dL_law_619 : decode cL_law 619 = .ok (.aload_n 0, 1) := by decide +kernel
theorem dL_law_620 : decode cL_law 620 = .ok (.iload_n 3, 1) := by decide +kernel
theorem dL_law_621 : decode cL_law 621 = .ok (.iconst 2, 1) := by decide +kernel
theorem dL_law_622 : decode cL_law 622 = .ok (.iadd, 1) := by decide +kernel
theorem dL_law_623 : decode cL_law 623 = .ok (.iaload, 1) := by decide +kernel
theorem dL_law_624 : decode cL_law 624 = .ok (.aload_n 0, 1) := by decide +kernel
theorem dL_law_625 : decode cL_law 625 = .ok (.iload_n 3, 1) := by decide +kernel
theorem dL_law_626 : decode cL_law 626 = .ok (.iconst 3, 1) := by decide +kernel
theorem dL_law_627 : decode cL_law 627 = .ok (.iadd, 1) := by decide +kernel
theorem dL_law_628 : decode cL_law 628 = .ok (.iaload, 1) := by decide +kernel
theorem dL_law_629 : decode cL_law 629 = .ok (.aload_n 0, 1) := by decide +kernel
theorem dL_law_630 : decode cL_law 630 = .ok (.iload_n 3, 1) := by decide +kernel
theorem dL_law_631 : decode cL_law 631 = .ok (.iconst 4, 1) := by decide +kernel
theorem dL_law_632 : decode cL_law 632 = .ok (.iadd, 1) := by decide +kernel
theorem dL_law_633 : decode cL_law 633 = .ok (.iaload, 1) := by decide +kernel
theorem dL_law_634 : decode cL_law 634 = .ok (.invokevirtual 72, 3) := by decide +kernel
theorem dL_law_637 : decode cL_law 637 = .ok (.if_icmp .eq 253, 3) := by decide +kernel
theorem dL_law_640 : decode cL_law 640 = .ok (.iconst 0, 1) := by decide +kernel
theorem dL_law_641 : decode cL_law 641 = .ok (.ireturn, 1) := by decide +kernel
theorem dL_law_642 : decode cL_law 642 = .ok (.aload_n 1, 1) := by decide +kernel
theorem dL_law_643 : decode cL_law 643 = .ok (.aload_n 0, 1) := by decide +kernel
theorem dL_law_644 : decode cL_law 644 = .ok (.iload_n 3, 1) := by decide +kernel
theorem dL_law_645 : decode cL_law 645 = .ok (.iconst 1, 1) := by decide +kernel
theorem dL_law_646 : decode cL_law 646 = .ok (.iadd, 1) := by decide +kernel
theorem dL_law_647 : decode cL_law 647 = .ok (.iaload, 1) := by decide +kernel
theorem dL_law_648 : decode cL_law 648 = .ok (.invokevirtual 73, 3) := by decide +kernel
theorem dL_law_651 : decode cL_law 651 = .ok (.aload_n 2, 1) := by decide +kernel
theorem dL_law_652 : decode cL_law 652 = .ok (.aload_n 0, 1) := by decide +kernel
theorem dL_law_653 : decode cL_law 653 = .ok (.iload_n 3, 1) := by decide +kernel
theorem dL_law_654 : decode cL_law 654 = .ok (.iconst 1, 1) := by decide +kernel
theorem dL_law_655 : decode cL_law 655 = .ok (.iadd, 1) := by decide +kernel
theorem dL_law_656 : decode cL_law 656 = .ok (.iaload, 1) := by decide +kernel
theorem dL_law_657 : decode cL_law 657 = .ok (.invokevirtual 76, 3) := by decide +kernel
theorem dL_law_660 : decode cL_law 660 = .ok (.if_icmp .eq 230, 3) := by decide +kernel
theorem dL_law_663 : decode cL_law 663 = .ok (.iconst 0, 1) := by decide +kernel
theorem dL_law_664 : decode cL_law 664 = .ok (.ireturn, 1) := by decide +kernel
theorem dL_law_665 : decode cL_law 665 = .ok (.aload_n 1, 1) := by decide +kernel
theorem dL_law_666 : decode cL_law 666 = .ok (.aload_n 0, 1) := by decide +kernel
theorem dL_law_667 : decode cL_law 667 = .ok (.iload_n 3, 1) := by decide +kernel
theorem dL_law_668 : decode cL_law 668 = .ok (.iconst 1, 1) := by decide +kernel
theorem dL_law_669 : decode cL_law 669 = .ok (.iadd, 1) := by decide +kernel
theorem dL_law_670 : decode cL_law 670 = .ok (.iaload, 1) := by decide +kernel
theorem dL_law_671 : decode cL_law 671 = .ok (.aload_n 0, 1) := by decide +kernel
theorem dL_law_672 : decode cL_law 672 = .ok (.iload_n 3, 1) := by decide +kernel
theorem dL_law_673 : decode cL_law 673 = .ok (.iconst 2, 1) := by decide +kernel
theorem dL_law_674 : decode cL_law 674 = .ok (.iadd, 1) := by decide +kernel
theorem dL_law_675 : decode cL_law 675 = .ok (.iaload, 1) := by decide +kernel
theorem dL_law_676 : decode cL_law 676 = .ok (.invokevirtual 77, 3) := by decide +kernel
theorem dL_law_679 : decode cL_law 679 = .ok (.aload_n 2, 1) := by decide +kernel
theorem dL_law_680 : decode cL_law 680 = .ok (.aload_n 0, 1) := by decide +kernel
theorem dL_law_681 : decode cL_law 681 = .ok (.iload_n 3, 1) := by decide +kernel
theorem dL_law_682 : decode cL_law 682 = .ok (.iconst 1, 1) := by decide +kernel
theorem dL_law_683 : decode cL_law 683 = .ok (.iadd, 1) := by decide +kernel
theorem dL_law_684 : decode cL_law 684 = .ok (.iaload, 1) := by decide +kernel
theorem dL_law_685 : decode cL_law 685 = .ok (.aload_n 0, 1) := by decide +kernel
theorem dL_law_686 : decode cL_law 686 = .ok (.iload_n 3, 1) := by decide +kernel
theorem dL_law_687 : decode cL_law 687 = .ok (.iconst 2, 1) := by decide +kernel
theorem dL_law_688 : decode cL_law 688 = .ok (.iadd, 1) := by decide +kernel
theorem dL_law_689 : decode cL_law 689 = .ok (.iaload, 1) := by decide +kernel
theorem dL_law_690 : decode cL_law 690 = .ok (.invokevirtual 80, 3) := by decide +kernel
theorem dL_law_693 : decode cL_law 693 = .ok (.if_icmp .eq 197, 3) := by decide +kernel
theorem dL_law_696 : decode cL_law 696 = .ok (.iconst 0, 1) := by decide +kernel
theorem dL_law_697 : decode cL_law 697 = .ok (.ireturn, 1) := by decide +kernel
theorem dL_law_698 : decode cL_law 698 = .ok (.aload_n 1, 1) := by decide +kernel
theorem dL_law_699 : decode cL_law 699 = .ok (.aload_n 0, 1) := by decide +kernel
theorem dL_law_700 : decode cL_law 700 = .ok (.iload_n 3, 1) := by decide +kernel
theorem dL_law_701 : decode cL_law 701 = .ok (.iconst 1, 1) := by decide +kernel
theorem dL_law_702 : decode cL_law 702 = .ok (.iadd, 1) := by decide +kernel
theorem dL_law_703 : decode cL_law 703 = .ok (.iaload, 1) := by decide +kernel
theorem dL_law_704 : decode cL_law 704 = .ok (.i2l, 1) := by decide +kernel
theorem dL_law_705 : decode cL_law 705 = .ok (.bipush 32, 2) := by decide +kernel
theorem dL_law_707 : decode cL_law 707 = .ok (.lshl, 1) := by decide +kernel
theorem dL_law_708 : decode cL_law 708 = .ok (.aload_n 0, 1) := by decide +kernel
theorem dL_law_709 : decode cL_law 709 = .ok (.iload_n 3, 1) := by decide +kernel
theorem dL_law_710 : decode cL_law 710 = .ok (.iconst 2, 1) := by decide +kernel
theorem dL_law_711 : decode cL_law 711 = .ok (.iadd, 1) := by decide +kernel
theorem dL_law_712 : decode cL_law 712 = .ok (.iaload, 1) := by decide +kernel
theorem dL_law_713 : decode cL_law 713 = .ok (.i2l, 1) := by decide +kernel
theorem dL_law_714 : decode cL_law 714 = .ok (.ldc2_w 27, 3) := by decide +kernel
theorem dL_law_717 : decode cL_law 717 = .ok (.land, 1) := by decide +kernel
theorem dL_law_718 : decode cL_law 718 = .ok (.lor, 1) := by decide +kernel
theorem dL_law_719 : decode cL_law 719 = .ok (.aload_n 0, 1) := by decide +kernel
theorem dL_law_720 : decode cL_law 720 = .ok (.iload_n 3, 1) := by decide +kernel
theorem dL_law_721 : decode cL_law 721 = .ok (.iconst 3, 1) := by decide +kernel
theorem dL_law_722 : decode cL_law 722 = .ok (.iadd, 1) := by decide +kernel
theorem dL_law_723 : decode cL_law 723 = .ok (.iaload, 1) := by decide +kernel
theorem dL_law_724 : decode cL_law 724 = .ok (.aload_n 0, 1) := by decide +kernel
theorem dL_law_725 : decode cL_law 725 = .ok (.iload_n 3, 1) := by decide +kernel
theorem dL_law_726 : decode cL_law 726 = .ok (.iconst 4, 1) := by decide +kernel
theorem dL_law_727 : decode cL_law 727 = .ok (.iadd, 1) := by decide +kernel
theorem dL_law_728 : decode cL_law 728 = .ok (.iaload, 1) := by decide +kernel
theorem dL_law_729 : decode cL_law 729 = .ok (.aload_n 0, 1) := by decide +kernel
theorem dL_law_730 : decode cL_law 730 = .ok (.iload_n 3, 1) := by decide +kernel
theorem dL_law_731 : decode cL_law 731 = .ok (.iconst 5, 1) := by decide +kernel
theorem dL_law_732 : decode cL_law 732 = .ok (.iadd, 1) := by decide +kernel
theorem dL_law_733 : decode cL_law 733 = .ok (.iaload, 1) := by decide +kernel
theorem dL_law_734 : decode cL_law 734 = .ok (.invokevirtual 81, 3) := by decide +kernel
theorem dL_law_737 : decode cL_law 737 = .ok (.aload_n 2, 1) := by decide +kernel
theorem dL_law_738 : decode cL_law 738 = .ok (.aload_n 0, 1) := by decide +kernel
theorem dL_law_739 : decode cL_law 739 = .ok (.iload_n 3, 1) := by decide +kernel
theorem dL_law_740 : decode cL_law 740 = .ok (.iconst 1, 1) := by decide +kernel
theorem dL_law_741 : decode cL_law 741 = .ok (.iadd, 1) := by decide +kernel
theorem dL_law_742 : decode cL_law 742 = .ok (.iaload, 1) := by decide +kernel
theorem dL_law_743 : decode cL_law 743 = .ok (.i2l, 1) := by decide +kernel
theorem dL_law_744 : decode cL_law 744 = .ok (.bipush 32, 2) := by decide +kernel
theorem dL_law_746 : decode cL_law 746 = .ok (.lshl, 1) := by decide +kernel
theorem dL_law_747 : decode cL_law 747 = .ok (.aload_n 0, 1) := by decide +kernel
theorem dL_law_748 : decode cL_law 748 = .ok (.iload_n 3, 1) := by decide +kernel
theorem dL_law_749 : decode cL_law 749 = .ok (.iconst 2, 1) := by decide +kernel
theorem dL_law_750 : decode cL_law 750 = .ok (.iadd, 1) := by decide +kernel
theorem dL_law_751 : decode cL_law 751 = .ok (.iaload, 1) := by decide +kernel
theorem dL_law_752 : decode cL_law 752 = .ok (.i2l, 1) := by decide +kernel
theorem dL_law_753 : decode cL_law 753 = .ok (.ldc2_w 27, 3) := by decide +kernel
theorem dL_law_756 : decode cL_law 756 = .ok (.land, 1) := by decide +kernel
theorem dL_law_757 : decode cL_law 757 = .ok (.lor, 1) := by decide +kernel
theorem dL_law_758 : decode cL_law 758 = .ok (.aload_n 0, 1) := by decide +kernel
theorem dL_law_759 : decode cL_law 759 = .ok (.iload_n 3, 1) := by decide +kernel
theorem dL_law_760 : decode cL_law 760 = .ok (.iconst 3, 1) := by decide +kernel
theorem dL_law_761 : decode cL_law 761 = .ok (.iadd, 1) := by decide +kernel
theorem dL_law_762 : decode cL_law 762 = .ok (.iaload, 1) := by decide +kernel
theorem dL_law_763 : decode cL_law 763 = .ok (.aload_n 0, 1) := by decide +kernel
theorem dL_law_764 : decode cL_law 764 = .ok (.iload_n 3, 1) := by decide +kernel
theorem dL_law_765 : decode cL_law 765 = .ok (.iconst 4, 1) := by decide +kernel
theorem dL_law_766 : decode cL_law 766 = .ok (.iadd, 1) := by decide +kernel
theorem dL_law_767 : decode cL_law 767 = .ok (.iaload, 1) := by decide +kernel
theorem dL_law_768 : decode cL_law 768 = .ok (.aload_n 0, 1) := by decide +kernel
theorem dL_law_769 : decode cL_law 769 = .ok (.iload_n 3, 1) := by decide +kernel
theorem dL_law_770 : decode cL_law 770 = .ok (.iconst 5, 1) := by decide +kernel
theorem dL_law_771 : decode cL_law 771 = .ok (.iadd, 1) := by decide +kernel
theorem dL_law_772 : decode cL_law 772 = .ok (.iaload, 1) := by decide +kernel
theorem dL_law_773 : decode cL_law 773 = .ok (.invokevirtual 85, 3) := by decide +kernel
theorem dL_law_776 : decode cL_law 776 = .ok (.if_icmp .eq 114, 3) := by decide +kernel
theorem dL_law_779 : decode cL_law 779 = .ok (.iconst 0, 1) := by decide +kernel
theorem dL_law_780 : decode cL_law 780 = .ok (.ireturn, 1) := by decide +kernel
theorem dL_law_781 : decode cL_law 781 = .ok (.aload_n 1, 1) := by decide +kernel
theorem dL_law_782 : decode cL_law 782 = .ok (.aload_n 0, 1) := by decide +kernel
theorem dL_law_783 : decode cL_law 783 = .ok (.iload_n 3, 1) := by decide +kernel
theorem dL_law_784 : decode cL_law 784 = .ok (.iconst 1, 1) := by decide +kernel
theorem dL_law_785 : decode cL_law 785 = .ok (.iadd, 1) := by decide +kernel
theorem dL_law_786 : decode cL_law 786 = .ok (.iaload, 1) := by decide +kernel
theorem dL_law_787 : decode cL_law 787 = .ok (.aload_n 0, 1) := by decide +kernel
theorem dL_law_788 : decode cL_law 788 = .ok (.iload_n 3, 1) := by decide +kernel
theorem dL_law_789 : decode cL_law 789 = .ok (.iconst 2, 1) := by decide +kernel
theorem dL_law_790 : decode cL_law 790 = .ok (.iadd, 1) := by decide +kernel
theorem dL_law_791 : decode cL_law 791 = .ok (.iaload, 1) := by decide +kernel
theorem dL_law_792 : decode cL_law 792 = .ok (.aload_n 0, 1) := by decide +kernel
theorem dL_law_793 : decode cL_law 793 = .ok (.iload_n 3, 1) := by decide +kernel
theorem dL_law_794 : decode cL_law 794 = .ok (.iconst 3, 1) := by decide +kernel
theorem dL_law_795 : decode cL_law 795 = .ok (.iadd, 1) := by decide +kernel
theorem dL_law_796 : decode cL_law 796 = .ok (.iaload, 1) := by decide +kernel
theorem dL_law_797 : decode cL_law 797 = .ok (.invokevirtual 86, 3) := by decide +kernel
theorem dL_law_800 : decode cL_law 800 = .ok (.aload_n 2, 1) := by decide +kernel
theorem dL_law_801 : decode cL_law 801 = .ok (.aload_n 0, 1) := by decide +kernel
theorem dL_law_802 : decode cL_law 802 = .ok (.iload_n 3, 1) := by decide +kernel
theorem dL_law_803 : decode cL_law 803 = .ok (.iconst 1, 1) := by decide +kernel
theorem dL_law_804 : decode cL_law 804 = .ok (.iadd, 1) := by decide +kernel
theorem dL_law_805 : decode cL_law 805 = .ok (.iaload, 1) := by decide +kernel
theorem dL_law_806 : decode cL_law 806 = .ok (.aload_n 0, 1) := by decide +kernel
theorem dL_law_807 : decode cL_law 807 = .ok (.iload_n 3, 1) := by decide +kernel
theorem dL_law_808 : decode cL_law 808 = .ok (.iconst 2, 1) := by decide +kernel
theorem dL_law_809 : decode cL_law 809 = .ok (.iadd, 1) := by decide +kernel
theorem dL_law_810 : decode cL_law 810 = .ok (.iaload, 1) := by decide +kernel
theorem dL_law_811 : decode cL_law 811 = .ok (.aload_n 0, 1) := by decide +kernel
theorem dL_law_812 : decode cL_law 812 = .ok (.iload_n 3, 1) := by decide +kernel
theorem dL_law_813 : decode cL_law 813 = .ok (.iconst 3, 1) := by decide +kernel
theorem dL_law_814 : decode cL_law 814 = .ok (.iadd, 1) := by decide +kernel
theorem dL_law_815 : decode cL_law 815 = .ok (.iaload, 1) := by decide +kernel
theorem dL_law_816 : decode cL_law 816 = .ok (.invokevirtual 90, 3) := by decide +kernel
theorem dL_law_819 : decode cL_law 819 = .ok (.if_icmp .eq 71, 3) := by decide +kernel
theorem dL_law_822 : decode cL_law 822 = .ok (.iconst 0, 1) := by decide +kernel
theorem dL_law_823 : decode cL_law 823 = .ok (.ireturn, 1) := by decide +kernel
theorem dL_law_824 : decode cL_law 824 = .ok (.aload_n 1, 1) := by decide +kernel
theorem dL_law_825 : decode cL_law 825 = .ok (.aload_n 0, 1) := by decide +kernel
theorem dL_law_826 : decode cL_law 826 = .ok (.iload_n 3, 1) := by decide +kernel
theorem dL_law_827 : decode cL_law 827 = .ok (.iconst 1, 1) := by decide +kernel
theorem dL_law_828 : decode cL_law 828 = .ok (.iadd, 1) := by decide +kernel
theorem dL_law_829 : decode cL_law 829 = .ok (.iaload, 1) := by decide +kernel
theorem dL_law_830 : decode cL_law 830 = .ok (.aload_n 0, 1) := by decide +kernel
theorem dL_law_831 : decode cL_law 831 = .ok (.iload_n 3, 1) := by decide +kernel
theorem dL_law_832 : decode cL_law 832 = .ok (.iconst 2, 1) := by decide +kernel
theorem dL_law_833 : decode cL_law 833 = .ok (.iadd, 1) := by decide +kernel
theorem dL_law_834 : decode cL_law 834 = .ok (.iaload, 1) := by decide +kernel
theorem dL_law_835 : decode cL_law 835 = .ok (.invokevirtual 91, 3) := by decide +kernel
theorem dL_law_838 : decode cL_law 838 = .ok (.aload_n 2, 1) := by decide +kernel
theorem dL_law_839 : decode cL_law 839 = .ok (.aload_n 0, 1) := by decide +kernel
theorem dL_law_840 : decode cL_law 840 = .ok (.iload_n 3, 1) := by decide +kernel
theorem dL_law_841 : decode cL_law 841 = .ok (.iconst 1, 1) := by decide +kernel
theorem dL_law_842 : decode cL_law 842 = .ok (.iadd, 1) := by decide +kernel
theorem dL_law_843 : decode cL_law 843 = .ok (.iaload, 1) := by decide +kernel
theorem dL_law_844 : decode cL_law 844 = .ok (.aload_n 0, 1) := by decide +kernel
theorem dL_law_845 : decode cL_law 845 = .ok (.iload_n 3, 1) := by decide +kernel
theorem dL_law_846 : decode cL_law 846 = .ok (.iconst 2, 1) := by decide +kernel
theorem dL_law_847 : decode cL_law 847 = .ok (.iadd, 1) := by decide +kernel
theorem dL_law_848 : decode cL_law 848 = .ok (.iaload, 1) := by decide +kernel
theorem dL_law_849 : decode cL_law 849 = .ok (.invokevirtual 94, 3) := by decide +kernel
theorem dL_law_852 : decode cL_law 852 = .ok (.if_icmp .eq 38, 3) := by decide +kernel
theorem dL_law_855 : decode cL_law 855 = .ok (.iconst 0, 1) := by decide +kernel
theorem dL_law_856 : decode cL_law 856 = .ok (.ireturn, 1) := by decide +kernel
theorem dL_law_857 : decode cL_law 857 = .ok (.aload_n 1, 1) := by decide +kernel
theorem dL_law_858 : decode cL_law 858 = .ok (.aload_n 0, 1) := by decide +kernel
theorem dL_law_859 : decode cL_law 859 = .ok (.iload_n 3, 1) := by decide +kernel
theorem dL_law_860 : decode cL_law 860 = .ok (.iconst 1, 1) := by decide +kernel
theorem dL_law_861 : decode cL_law 861 = .ok (.iadd, 1) := by decide +kernel
theorem dL_law_862 : decode cL_law 862 = .ok (.iaload, 1) := by decide +kernel
theorem dL_law_863 : decode cL_law 863 = .ok (.aload_n 0, 1) := by decide +kernel
theorem dL_law_864 : decode cL_law 864 = .ok (.iload_n 3, 1) := by decide +kernel
theorem dL_law_865 : decode cL_law 865 = .ok (.iconst 2, 1) := by decide +kernel
theorem dL_law_866 : decode cL_law 866 = .ok (.iadd, 1) := by decide +kernel
theorem dL_law_867 : decode cL_law 867 = .ok (.iaload, 1) := by decide +kernel
theorem dL_law_868 : decode cL_law 868 = .ok (.invokevirtual 95, 3) := by decide +kernel
theorem dL_law_871 : decode cL_law 871 = .ok (.aload_n 2, 1) := by decide +kernel
theorem dL_law_872 : decode cL_law 872 = .ok (.aload_n 0, 1) := by decide +kernel
theorem dL_law_873 : decode cL_law 873 = .ok (.iload_n 3, 1) := by decide +kernel
theorem dL_law_874 : decode cL_law 874 = .ok (.iconst 1, 1) := by decide +kernel
theorem dL_law_875 : decode cL_law 875 = .ok (.iadd, 1) := by decide +kernel
theorem dL_law_876 : decode cL_law 876 = .ok (.iaload, 1) := by decide +kernel
theorem dL_law_877 : decode cL_law 877 = .ok (.aload_n 0, 1) := by decide +kernel
theorem dL_law_878 : decode cL_law 878 = .ok (.iload_n 3, 1) := by decide +kernel
theorem dL_law_879 : decode cL_law 879 = .ok (.iconst 2, 1) := by decide +kernel
theorem dL_law_880 : decode cL_law 880 = .ok (.iadd, 1) := by decide +kernel
theorem dL_law_881 : decode cL_law 881 = .ok (.iaload, 1) := by decide +kernel
theorem dL_law_882 : decode cL_law 882 = .ok (.invokevirtual 98, 3) := by decide +kernel
theorem dL_law_885 : decode cL_law 885 = .ok (.if_icmp .eq 5, 3) := by decide +kernel
theorem dL_law_888 : decode cL_law 888 = .ok (.iconst 0, 1) := by decide +kernel
theorem dL_law_889 : decode cL_law 889 = .ok (.ireturn, 1) := by decide +kernel
theorem dL_law_890 : decode cL_law 890 = .ok (.iinc 3 7, 3) := by decide +kernel
theorem dL_law_893 : decode cL_law 893 = .ok (.goto (-875), 3) := by decide +kernel
theorem dL_law_896 : decode cL_law 896 = .ok (.iconst 1, 1) := by decide +kernel
theorem dL_law_897 : decode cL_law 897 = .ok (.ireturn, 1) := by decide +kernel
end
section
/-! the tables' words that stay when classes are warmed: one list for every method -/
def GW : List Cond := lw_tbl.filter goodWord
theorem GW_of {w : Cond} (h : w ∈ lw_tbl) (g : goodWord w = true) : w ∈ GW := List.mem_filter.mpr ⟨h, g⟩
theorem GW_t {w : Cond} (i : Nat) (h : tables_1[i]? = some w) (g : goodWord w = true) : w ∈ GW := GW_of (List.mem_append_right _ (List.mem_of_getElem? h)) g
theorem GW_p {w : Cond} (i : Nat) (h : (k2_sels lw_privs)[i]? = some w) (g : goodWord w = true) : w ∈ GW := GW_of (List.mem_append_left _ (List.mem_of_getElem? h)) g
theorem GW_good {w : Cond} (h : w ∈ GW) : goodWord w = true := (List.mem_filter.mp h).2
theorem g0 : Cond.initialized "AnswerKeeperLaw" ∈ GW := GW_t 0 (by decide +kernel) (by decide +kernel)
theorem g1 : Cond.initialized "AnswerKeeper" ∈ GW := GW_t 1 (by decide +kernel) (by decide +kernel)
theorem g2 : Cond.initialized "AnswerKeeper$Book" ∈ GW := GW_t 2 (by decide +kernel) (by decide +kernel)
theorem g3 : Cond.initialized "AnswerKeeper$Things" ∈ GW := GW_t 3 (by decide +kernel) (by decide +kernel)
theorem g4 : Cond.initialized "AnswerKeeperModel" ∈ GW := GW_t 4 (by decide +kernel) (by decide +kernel)
theorem g5 : Cond.initialized "AnswerKeeper$Answer" ∈ GW := GW_t 5 (by decide +kernel) (by decide +kernel)
theorem g6 : Cond.initialized "java/lang/Integer" ∈ GW := GW_t 6 (by decide +kernel) (by decide +kernel)
theorem g7 : Cond.initialized "java/lang/Math" ∈ GW := GW_t 7 (by decide +kernel) (by decide +kernel)
theorem g8 : Cond.initialized "java/lang/Long" ∈ GW := GW_t 8 (by decide +kernel) (by decide +kernel)
theorem g9 : Cond.initialized "AnswerKeeper$Ask" ∈ GW := GW_t 9 (by decide +kernel) (by decide +kernel)
theorem g10 : Cond.classLink "AnswerKeeperLaw" 7 "AnswerKeeper" ∈ GW := GW_t 10 (by decide +kernel) (by decide +kernel)
theorem g11 : Cond.instantiable "AnswerKeeper" 8 ∈ GW := GW_t 11 (by decide +kernel) (by decide +kernel)
theorem g12 : Cond.methodLink "AnswerKeeperLaw" 9 ⟨"AnswerKeeper", "<init>", "()V"⟩ ∈ GW := GW_t 12 (by decide +kernel) (by decide +kernel)
theorem g13 : Cond.instanceMethod ⟨"AnswerKeeper", "<init>", "()V"⟩ ∈ GW := GW_t 13 (by decide +kernel) (by decide +kernel)
theorem g14 : Cond.code ⟨"AnswerKeeper", "<init>", "()V"⟩ prog_1_method_1_code 1 none ∈ GW := GW_t 14 (by decide +kernel) (by decide +kernel)
theorem g15 : Cond.methodLink "AnswerKeeper" 1 ⟨"java/lang/Object", "<init>", "()V"⟩ ∈ GW := GW_t 15 (by decide +kernel) (by decide +kernel)
theorem g16 : Cond.instanceMethod ⟨"java/lang/Object", "<init>", "()V"⟩ ∈ GW := GW_t 16 (by decide +kernel) (by decide +kernel)
theorem g17 : Cond.code ⟨"java/lang/Object", "<init>", "()V"⟩ object_method_1_code 1 none ∈ GW := GW_t 17 (by decide +kernel) (by decide +kernel)
theorem g18 : Cond.classLink "AnswerKeeper" 7 "AnswerKeeper$Book" ∈ GW := GW_t 18 (by decide +kernel) (by decide +kernel)
theorem g19 : Cond.instantiable "AnswerKeeper$Book" 1 ∈ GW := GW_t 19 (by decide +kernel) (by decide +kernel)
theorem g20 : Cond.methodLink "AnswerKeeper" 9 ⟨"AnswerKeeper$Book", "<init>", "()V"⟩ ∈ GW := GW_t 20 (by decide +kernel) (by decide +kernel)
theorem g21 : Cond.instanceMethod ⟨"AnswerKeeper$Book", "<init>", "()V"⟩ ∈ GW := GW_t 21 (by decide +kernel) (by decide +kernel)
theorem g22 : Cond.code ⟨"AnswerKeeper$Book", "<init>", "()V"⟩ prog_4_method_1_code 2 none ∈ GW := GW_t 22 (by decide +kernel) (by decide +kernel)
theorem g23 : Cond.methodLink "AnswerKeeper$Book" 3 ⟨"java/lang/Object", "<init>", "()V"⟩ ∈ GW := GW_t 23 (by decide +kernel) (by decide +kernel)
theorem g24 : Cond.fieldLink "AnswerKeeper$Book" 9 "AnswerKeeper$Book" "folds" "[I" ∈ GW := GW_t 24 (by decide +kernel) (by decide +kernel)
theorem g28 : Cond.arrayClass FieldType.int ∈ GW := GW_t 28 (by decide +kernel) (by decide +kernel)
theorem g29 : Cond.classLink "AnswerKeeper" 16 "AnswerKeeper$Things" ∈ GW := GW_t 29 (by decide +kernel) (by decide +kernel)
theorem g30 : Cond.instantiable "AnswerKeeper$Things" 3 ∈ GW := GW_t 30 (by decide +kernel) (by decide +kernel)
theorem g32 : Cond.instanceMethod ⟨"AnswerKeeper$Things", "<init>", "()V"⟩ ∈ GW := GW_t 32 (by decide +kernel) (by decide +kernel)
theorem g33 : Cond.code ⟨"AnswerKeeper$Things", "<init>", "()V"⟩ prog_5_method_1_code 1 none ∈ GW := GW_t 33 (by decide +kernel) (by decide +kernel)
theorem g34 : Cond.methodLink "AnswerKeeper$Things" 3 ⟨"java/lang/Object", "<init>", "()V"⟩ ∈ GW := GW_t 34 (by decide +kernel) (by decide +kernel)
theorem g35 : Cond.fieldLink "AnswerKeeper$Things" 9 "AnswerKeeper$Things" "states" "[I" ∈ GW := GW_t 35 (by decide +kernel) (by decide +kernel)
theorem g36 : Cond.fieldLink "AnswerKeeper$Things" 15 "AnswerKeeper$Things" "changedAt" "[I" ∈ GW := GW_t 36 (by decide +kernel) (by decide +kernel)
theorem g37 : Cond.fieldLink "AnswerKeeper$Things" 18 "AnswerKeeper$Things" "clock" "I" ∈ GW := GW_t 37 (by decide +kernel) (by decide +kernel)
theorem g45 : Cond.classLink "AnswerKeeper" 23 "AnswerKeeper$Answer" ∈ GW := GW_t 45 (by decide +kernel) (by decide +kernel)
theorem g47 : Cond.classLink "AnswerKeeper" 29 "AnswerKeeper$Ask" ∈ GW := GW_t 47 (by decide +kernel) (by decide +kernel)
theorem g49 : Cond.fieldLink "AnswerKeeper" 10 "AnswerKeeper" "book" "LAnswerKeeper$Book;" ∈ GW := GW_t 49 (by decide +kernel) (by decide +kernel)
theorem g50 : Cond.fieldLink "AnswerKeeper" 19 "AnswerKeeper" "things" "LAnswerKeeper$Things;" ∈ GW := GW_t 50 (by decide +kernel) (by decide +kernel)
theorem g51 : Cond.fieldLink "AnswerKeeper" 25 "AnswerKeeper" "answers" "[LAnswerKeeper$Answer;" ∈ GW := GW_t 51 (by decide +kernel) (by decide +kernel)
theorem g52 : Cond.fieldLink "AnswerKeeper" 31 "AnswerKeeper" "asks" "[LAnswerKeeper$Ask;" ∈ GW := GW_t 52 (by decide +kernel) (by decide +kernel)
theorem g53 : Cond.fieldLink "AnswerKeeper" 35 "AnswerKeeper" "answerCount" "I" ∈ GW := GW_t 53 (by decide +kernel) (by decide +kernel)
theorem g54 : Cond.fieldLink "AnswerKeeper" 39 "AnswerKeeper" "askCount" "I" ∈ GW := GW_t 54 (by decide +kernel) (by decide +kernel)
theorem g55 : Cond.fieldLink "AnswerKeeper" 42 "AnswerKeeper" "near" "I" ∈ GW := GW_t 55 (by decide +kernel) (by decide +kernel)
theorem g56 : Cond.fieldLink "AnswerKeeper" 45 "AnswerKeeper" "limit" "I" ∈ GW := GW_t 56 (by decide +kernel) (by decide +kernel)
theorem g74 : Cond.methodLink "AnswerKeeperLaw" 13 ⟨"AnswerKeeper", "fold", "(II)I"⟩ ∈ GW := GW_t 74 (by decide +kernel) (by decide +kernel)
theorem g75 : Cond.instanceMethod ⟨"AnswerKeeper", "fold", "(II)I"⟩ ∈ GW := GW_t 75 (by decide +kernel) (by decide +kernel)
theorem g76 : Cond.selects "AnswerKeeper" ⟨"AnswerKeeper", "fold", "(II)I"⟩ ⟨"AnswerKeeper", "fold", "(II)I"⟩ ∈ GW := GW_t 76 (by decide +kernel) (by decide +kernel)
theorem g77 : Cond.code ⟨"AnswerKeeper", "fold", "(II)I"⟩ prog_1_method_2_code 4 (some FieldType.int) ∈ GW := GW_t 77 (by decide +kernel) (by decide +kernel)
theorem g78 : Cond.methodLink "AnswerKeeper" 48 ⟨"AnswerKeeper", "isWord", "(I)Z"⟩ ∈ GW := GW_t 78 (by decide +kernel) (by decide +kernel)
theorem g79 : Cond.static ⟨"AnswerKeeper", "isWord", "(I)Z"⟩ ∈ GW := GW_t 79 (by decide +kernel) (by decide +kernel)
theorem g80 : Cond.code ⟨"AnswerKeeper", "isWord", "(I)Z"⟩ prog_1_method_25_code 1 (some FieldType.boolean) ∈ GW := GW_t 80 (by decide +kernel) (by decide +kernel)
theorem g81 : Cond.methodLink "AnswerKeeper" 66 ⟨"AnswerKeeper", "within", "(III)Z"⟩ ∈ GW := GW_t 81 (by decide +kernel) (by decide +kernel)
theorem g82 : Cond.static ⟨"AnswerKeeper", "within", "(III)Z"⟩ ∈ GW := GW_t 82 (by decide +kernel) (by decide +kernel)
theorem g83 : Cond.code ⟨"AnswerKeeper", "within", "(III)Z"⟩ prog_1_method_24_code 3 (some FieldType.boolean) ∈ GW := GW_t 83 (by decide +kernel) (by decide +kernel)
theorem g84 : Cond.methodLink "AnswerKeeper" 52 ⟨"AnswerKeeper$Book", "foldOf", "(I)I"⟩ ∈ GW := GW_t 84 (by decide +kernel) (by decide +kernel)
theorem g85 : Cond.instanceMethod ⟨"AnswerKeeper$Book", "foldOf", "(I)I"⟩ ∈ GW := GW_t 85 (by decide +kernel) (by decide +kernel)
theorem g86 : Cond.selects "AnswerKeeper$Book" ⟨"AnswerKeeper$Book", "foldOf", "(I)I"⟩ ⟨"AnswerKeeper$Book", "foldOf", "(I)I"⟩ ∈ GW := GW_t 86 (by decide +kernel) (by decide +kernel)
theorem g87 : Cond.code ⟨"AnswerKeeper$Book", "foldOf", "(I)I"⟩ prog_4_method_2_code 2 (some FieldType.int) ∈ GW := GW_t 87 (by decide +kernel) (by decide +kernel)
theorem g88 : Cond.methodLink "AnswerKeeper" 56 ⟨"AnswerKeeper$Book", "turn", "(II)V"⟩ ∈ GW := GW_t 88 (by decide +kernel) (by decide +kernel)
theorem g89 : Cond.instanceMethod ⟨"AnswerKeeper$Book", "turn", "(II)V"⟩ ∈ GW := GW_t 89 (by decide +kernel) (by decide +kernel)
theorem g90 : Cond.selects "AnswerKeeper$Book" ⟨"AnswerKeeper$Book", "turn", "(II)V"⟩ ⟨"AnswerKeeper$Book", "turn", "(II)V"⟩ ∈ GW := GW_t 90 (by decide +kernel) (by decide +kernel)
theorem g91 : Cond.code ⟨"AnswerKeeper$Book", "turn", "(II)V"⟩ prog_4_method_3_code 3 none ∈ GW := GW_t 91 (by decide +kernel) (by decide +kernel)
theorem g92 : Cond.methodLink "AnswerKeeper" 60 ⟨"AnswerKeeper", "settle", "()V"⟩ ∈ GW := GW_t 92 (by decide +kernel) (by decide +kernel)
theorem g94 : Cond.instanceMethod ⟨"AnswerKeeper", "settle", "()V"⟩ ∈ GW := GW_t 94 (by decide +kernel) (by decide +kernel)
theorem g95 : Cond.code ⟨"AnswerKeeper", "settle", "()V"⟩ prog_1_method_42_code 3 none ∈ GW := GW_t 95 (by decide +kernel) (by decide +kernel)
theorem g96 : Cond.methodLink "AnswerKeeper" 120 ⟨"AnswerKeeper", "answerAt", "(I)LAnswerKeeper$Answer;"⟩ ∈ GW := GW_t 96 (by decide +kernel) (by decide +kernel)
theorem g98 : Cond.instanceMethod ⟨"AnswerKeeper", "answerAt", "(I)LAnswerKeeper$Answer;"⟩ ∈ GW := GW_t 98 (by decide +kernel) (by decide +kernel)
theorem g99 : Cond.code ⟨"AnswerKeeper", "answerAt", "(I)LAnswerKeeper$Answer;"⟩ prog_1_method_21_code 2 (some (FieldType.object "AnswerKeeper$Answer")) ∈ GW := GW_t 99 (by decide +kernel) (by decide +kernel)
theorem g100 : Cond.methodLink "AnswerKeeper" 269 ⟨"AnswerKeeper", "settlePlain", "(LAnswerKeeper$Answer;)V"⟩ ∈ GW := GW_t 100 (by decide +kernel) (by decide +kernel)
theorem g102 : Cond.instanceMethod ⟨"AnswerKeeper", "settlePlain", "(LAnswerKeeper$Answer;)V"⟩ ∈ GW := GW_t 102 (by decide +kernel) (by decide +kernel)
theorem g103 : Cond.code ⟨"AnswerKeeper", "settlePlain", "(LAnswerKeeper$Answer;)V"⟩ prog_1_method_43_code 2 none ∈ GW := GW_t 103 (by decide +kernel) (by decide +kernel)
theorem g104 : Cond.methodLink "AnswerKeeper" 285 ⟨"AnswerKeeper$Things", "isChangedSince", "(II)Z"⟩ ∈ GW := GW_t 104 (by decide +kernel) (by decide +kernel)
theorem g105 : Cond.instanceMethod ⟨"AnswerKeeper$Things", "isChangedSince", "(II)Z"⟩ ∈ GW := GW_t 105 (by decide +kernel) (by decide +kernel)
theorem g106 : Cond.selects "AnswerKeeper$Things" ⟨"AnswerKeeper$Things", "isChangedSince", "(II)Z"⟩ ⟨"AnswerKeeper$Things", "isChangedSince", "(II)Z"⟩ ∈ GW := GW_t 106 (by decide +kernel) (by decide +kernel)
theorem g107 : Cond.code ⟨"AnswerKeeper$Things", "isChangedSince", "(II)Z"⟩ prog_5_method_4_code 4 (some FieldType.boolean) ∈ GW := GW_t 107 (by decide +kernel) (by decide +kernel)
theorem g109 : Cond.static ⟨"AnswerKeeper", "bit", "(I)I"⟩ ∈ GW := GW_t 109 (by decide +kernel) (by decide +kernel)
theorem g110 : Cond.code ⟨"AnswerKeeper", "bit", "(I)I"⟩ prog_1_method_31_code 1 (some FieldType.int) ∈ GW := GW_t 110 (by decide +kernel) (by decide +kernel)
theorem g111 : Cond.methodLink "AnswerKeeper" 279 ⟨"AnswerKeeper$Book", "folded", "(J)J"⟩ ∈ GW := GW_t 111 (by decide +kernel) (by decide +kernel)
theorem g112 : Cond.instanceMethod ⟨"AnswerKeeper$Book", "folded", "(J)J"⟩ ∈ GW := GW_t 112 (by decide +kernel) (by decide +kernel)
theorem g113 : Cond.selects "AnswerKeeper$Book" ⟨"AnswerKeeper$Book", "folded", "(J)J"⟩ ⟨"AnswerKeeper$Book", "folded", "(J)J"⟩ ∈ GW := GW_t 113 (by decide +kernel) (by decide +kernel)
theorem g114 : Cond.code ⟨"AnswerKeeper$Book", "folded", "(J)J"⟩ prog_4_method_4_code 6 (some FieldType.long) ∈ GW := GW_t 114 (by decide +kernel) (by decide +kernel)
theorem g115 : Cond.methodLink "AnswerKeeper" 272 ⟨"AnswerKeeper", "settleUnder", "()V"⟩ ∈ GW := GW_t 115 (by decide +kernel) (by decide +kernel)
theorem g117 : Cond.instanceMethod ⟨"AnswerKeeper", "settleUnder", "()V"⟩ ∈ GW := GW_t 117 (by decide +kernel) (by decide +kernel)
theorem g118 : Cond.code ⟨"AnswerKeeper", "settleUnder", "()V"⟩ prog_1_method_44_code 3 none ∈ GW := GW_t 118 (by decide +kernel) (by decide +kernel)
theorem g119 : Cond.methodLink "AnswerKeeper" 293 ⟨"AnswerKeeper", "widenUnder", "(LAnswerKeeper$Answer;)V"⟩ ∈ GW := GW_t 119 (by decide +kernel) (by decide +kernel)
theorem g121 : Cond.instanceMethod ⟨"AnswerKeeper", "widenUnder", "(LAnswerKeeper$Answer;)V"⟩ ∈ GW := GW_t 121 (by decide +kernel) (by decide +kernel)
theorem g122 : Cond.code ⟨"AnswerKeeper", "widenUnder", "(LAnswerKeeper$Answer;)V"⟩ prog_1_method_45_code 4 none ∈ GW := GW_t 122 (by decide +kernel) (by decide +kernel)
theorem g123 : Cond.methodLink "AnswerKeeper" 259 ⟨"AnswerKeeper$Answer", "partAt", "(I)I"⟩ ∈ GW := GW_t 123 (by decide +kernel) (by decide +kernel)
theorem g124 : Cond.instanceMethod ⟨"AnswerKeeper$Answer", "partAt", "(I)I"⟩ ∈ GW := GW_t 124 (by decide +kernel) (by decide +kernel)
theorem g125 : Cond.selects "AnswerKeeper$Answer" ⟨"AnswerKeeper$Answer", "partAt", "(I)I"⟩ ⟨"AnswerKeeper$Answer", "partAt", "(I)I"⟩ ∈ GW := GW_t 125 (by decide +kernel) (by decide +kernel)
theorem g126 : Cond.code ⟨"AnswerKeeper$Answer", "partAt", "(I)I"⟩ prog_2_method_7_code 2 (some FieldType.int) ∈ GW := GW_t 126 (by decide +kernel) (by decide +kernel)
theorem g127 : Cond.methodLink "AnswerKeeper" 133 ⟨"AnswerKeeper", "endOf", "(I)LAnswerKeeper$Answer;"⟩ ∈ GW := GW_t 127 (by decide +kernel) (by decide +kernel)
theorem g129 : Cond.instanceMethod ⟨"AnswerKeeper", "endOf", "(I)LAnswerKeeper$Answer;"⟩ ∈ GW := GW_t 129 (by decide +kernel) (by decide +kernel)
theorem g130 : Cond.code ⟨"AnswerKeeper", "endOf", "(I)LAnswerKeeper$Answer;"⟩ prog_1_method_35_code 3 (some (FieldType.object "AnswerKeeper$Answer")) ∈ GW := GW_t 130 (by decide +kernel) (by decide +kernel)
theorem g131 : Cond.methodLink "AnswerKeeper" 105 ⟨"AnswerKeeper", "bit", "(I)I"⟩ ∈ GW := GW_t 131 (by decide +kernel) (by decide +kernel)
theorem g132 : Cond.methodLink "AnswerKeeper" 275 ⟨"AnswerKeeper", "settleJoined", "(LAnswerKeeper$Answer;)V"⟩ ∈ GW := GW_t 132 (by decide +kernel) (by decide +kernel)
theorem g134 : Cond.instanceMethod ⟨"AnswerKeeper", "settleJoined", "(LAnswerKeeper$Answer;)V"⟩ ∈ GW := GW_t 134 (by decide +kernel) (by decide +kernel)
theorem g135 : Cond.code ⟨"AnswerKeeper", "settleJoined", "(LAnswerKeeper$Answer;)V"⟩ prog_1_method_46_code 4 none ∈ GW := GW_t 135 (by decide +kernel) (by decide +kernel)
theorem g136 : Cond.methodLink "AnswerKeeper" 296 ⟨"AnswerKeeper$Answer", "clearGathered", "()V"⟩ ∈ GW := GW_t 136 (by decide +kernel) (by decide +kernel)
theorem g137 : Cond.instanceMethod ⟨"AnswerKeeper$Answer", "clearGathered", "()V"⟩ ∈ GW := GW_t 137 (by decide +kernel) (by decide +kernel)
theorem g138 : Cond.selects "AnswerKeeper$Answer" ⟨"AnswerKeeper$Answer", "clearGathered", "()V"⟩ ⟨"AnswerKeeper$Answer", "clearGathered", "()V"⟩ ∈ GW := GW_t 138 (by decide +kernel) (by decide +kernel)
theorem g139 : Cond.code ⟨"AnswerKeeper$Answer", "clearGathered", "()V"⟩ prog_2_method_12_code 2 none ∈ GW := GW_t 139 (by decide +kernel) (by decide +kernel)
theorem g141 : Cond.static ⟨"AnswerKeeper", "allValues", "(I)I"⟩ ∈ GW := GW_t 141 (by decide +kernel) (by decide +kernel)
theorem g142 : Cond.code ⟨"AnswerKeeper", "allValues", "(I)I"⟩ prog_1_method_27_code 1 (some FieldType.int) ∈ GW := GW_t 142 (by decide +kernel) (by decide +kernel)
theorem g143 : Cond.fieldLink "AnswerKeeper" 247 "AnswerKeeper" "ALL_VALUES" "[I" ∈ GW := GW_t 143 (by decide +kernel) (by decide +kernel)
theorem g145 : Cond.methodLink "AnswerKeeper" 299 ⟨"AnswerKeeper$Answer", "gather", "(LAnswerKeeper$Answer;)V"⟩ ∈ GW := GW_t 145 (by decide +kernel) (by decide +kernel)
theorem g146 : Cond.instanceMethod ⟨"AnswerKeeper$Answer", "gather", "(LAnswerKeeper$Answer;)V"⟩ ∈ GW := GW_t 146 (by decide +kernel) (by decide +kernel)
theorem g147 : Cond.selects "AnswerKeeper$Answer" ⟨"AnswerKeeper$Answer", "gather", "(LAnswerKeeper$Answer;)V"⟩ ⟨"AnswerKeeper$Answer", "gather", "(LAnswerKeeper$Answer;)V"⟩ ∈ GW := GW_t 147 (by decide +kernel) (by decide +kernel)
theorem g148 : Cond.code ⟨"AnswerKeeper$Answer", "gather", "(LAnswerKeeper$Answer;)V"⟩ prog_2_method_13_code 3 none ∈ GW := GW_t 148 (by decide +kernel) (by decide +kernel)
theorem g149 : Cond.methodLink "AnswerKeeper$Answer" 58 ⟨"AnswerKeeper$Answer", "setOf", "(I)I"⟩ ∈ GW := GW_t 149 (by decide +kernel) (by decide +kernel)
theorem g150 : Cond.instanceMethod ⟨"AnswerKeeper$Answer", "setOf", "(I)I"⟩ ∈ GW := GW_t 150 (by decide +kernel) (by decide +kernel)
theorem g151 : Cond.selects "AnswerKeeper$Answer" ⟨"AnswerKeeper$Answer", "setOf", "(I)I"⟩ ⟨"AnswerKeeper$Answer", "setOf", "(I)I"⟩ ∈ GW := GW_t 151 (by decide +kernel) (by decide +kernel)
theorem g152 : Cond.code ⟨"AnswerKeeper$Answer", "setOf", "(I)I"⟩ prog_2_method_5_code 2 (some FieldType.int) ∈ GW := GW_t 152 (by decide +kernel) (by decide +kernel)
theorem g153 : Cond.methodLink "AnswerKeeper" 207 ⟨"AnswerKeeper", "askAt", "(I)LAnswerKeeper$Ask;"⟩ ∈ GW := GW_t 153 (by decide +kernel) (by decide +kernel)
theorem g155 : Cond.instanceMethod ⟨"AnswerKeeper", "askAt", "(I)LAnswerKeeper$Ask;"⟩ ∈ GW := GW_t 155 (by decide +kernel) (by decide +kernel)
theorem g156 : Cond.code ⟨"AnswerKeeper", "askAt", "(I)LAnswerKeeper$Ask;"⟩ prog_1_method_22_code 2 (some (FieldType.object "AnswerKeeper$Ask")) ∈ GW := GW_t 156 (by decide +kernel) (by decide +kernel)
theorem g157 : Cond.methodLink "AnswerKeeperLaw" 18 ⟨"AnswerKeeper", "changed", "(I)I"⟩ ∈ GW := GW_t 157 (by decide +kernel) (by decide +kernel)
theorem g158 : Cond.instanceMethod ⟨"AnswerKeeper", "changed", "(I)I"⟩ ∈ GW := GW_t 158 (by decide +kernel) (by decide +kernel)
theorem g159 : Cond.selects "AnswerKeeper" ⟨"AnswerKeeper", "changed", "(I)I"⟩ ⟨"AnswerKeeper", "changed", "(I)I"⟩ ∈ GW := GW_t 159 (by decide +kernel) (by decide +kernel)
theorem g160 : Cond.code ⟨"AnswerKeeper", "changed", "(I)I"⟩ prog_1_method_3_code 3 (some FieldType.int) ∈ GW := GW_t 160 (by decide +kernel) (by decide +kernel)
theorem g161 : Cond.methodLink "AnswerKeeper" 63 ⟨"AnswerKeeper$Things", "change", "(I)I"⟩ ∈ GW := GW_t 161 (by decide +kernel) (by decide +kernel)
theorem g162 : Cond.instanceMethod ⟨"AnswerKeeper$Things", "change", "(I)I"⟩ ∈ GW := GW_t 162 (by decide +kernel) (by decide +kernel)
theorem g163 : Cond.selects "AnswerKeeper$Things" ⟨"AnswerKeeper$Things", "change", "(I)I"⟩ ⟨"AnswerKeeper$Things", "change", "(I)I"⟩ ∈ GW := GW_t 163 (by decide +kernel) (by decide +kernel)
theorem g164 : Cond.code ⟨"AnswerKeeper$Things", "change", "(I)I"⟩ prog_5_method_3_code 2 (some FieldType.int) ∈ GW := GW_t 164 (by decide +kernel) (by decide +kernel)
theorem g165 : Cond.methodLink "AnswerKeeperLaw" 23 ⟨"AnswerKeeper", "rule", "(II)I"⟩ ∈ GW := GW_t 165 (by decide +kernel) (by decide +kernel)
theorem g166 : Cond.instanceMethod ⟨"AnswerKeeper", "rule", "(II)I"⟩ ∈ GW := GW_t 166 (by decide +kernel) (by decide +kernel)
theorem g167 : Cond.selects "AnswerKeeper" ⟨"AnswerKeeper", "rule", "(II)I"⟩ ⟨"AnswerKeeper", "rule", "(II)I"⟩ ∈ GW := GW_t 167 (by decide +kernel) (by decide +kernel)
theorem g168 : Cond.code ⟨"AnswerKeeper", "rule", "(II)I"⟩ prog_1_method_4_code 4 (some FieldType.int) ∈ GW := GW_t 168 (by decide +kernel) (by decide +kernel)
theorem g169 : Cond.methodLink "AnswerKeeperLaw" 29 ⟨"AnswerKeeper", "answer", "(JIIII)I"⟩ ∈ GW := GW_t 169 (by decide +kernel) (by decide +kernel)
theorem g170 : Cond.instanceMethod ⟨"AnswerKeeper", "answer", "(JIIII)I"⟩ ∈ GW := GW_t 170 (by decide +kernel) (by decide +kernel)
theorem g171 : Cond.selects "AnswerKeeper" ⟨"AnswerKeeper", "answer", "(JIIII)I"⟩ ⟨"AnswerKeeper", "answer", "(JIIII)I"⟩ ∈ GW := GW_t 171 (by decide +kernel) (by decide +kernel)
theorem g172 : Cond.code ⟨"AnswerKeeper", "answer", "(JIIII)I"⟩ prog_1_method_5_code 8 (some FieldType.int) ∈ GW := GW_t 172 (by decide +kernel) (by decide +kernel)
theorem g173 : Cond.methodLink "AnswerKeeper" 70 ⟨"AnswerKeeper", "isSetOfWords", "(J)Z"⟩ ∈ GW := GW_t 173 (by decide +kernel) (by decide +kernel)
theorem g174 : Cond.static ⟨"AnswerKeeper", "isSetOfWords", "(J)Z"⟩ ∈ GW := GW_t 174 (by decide +kernel) (by decide +kernel)
theorem g175 : Cond.code ⟨"AnswerKeeper", "isSetOfWords", "(J)Z"⟩ prog_1_method_26_code 2 (some FieldType.boolean) ∈ GW := GW_t 175 (by decide +kernel) (by decide +kernel)
theorem g176 : Cond.constantLong "AnswerKeeper" 245 1099511627776 ∈ GW := GW_t 176 (by decide +kernel) (by decide +kernel)
theorem g177 : Cond.methodLink "AnswerKeeper" 74 ⟨"AnswerKeeper", "isSetOfValues", "(II)Z"⟩ ∈ GW := GW_t 177 (by decide +kernel) (by decide +kernel)
theorem g178 : Cond.static ⟨"AnswerKeeper", "isSetOfValues", "(II)Z"⟩ ∈ GW := GW_t 178 (by decide +kernel) (by decide +kernel)
theorem g179 : Cond.code ⟨"AnswerKeeper", "isSetOfValues", "(II)Z"⟩ prog_1_method_28_code 2 (some FieldType.boolean) ∈ GW := GW_t 179 (by decide +kernel) (by decide +kernel)
theorem g180 : Cond.methodLink "AnswerKeeper" 251 ⟨"AnswerKeeper", "allValues", "(I)I"⟩ ∈ GW := GW_t 180 (by decide +kernel) (by decide +kernel)
theorem g181 : Cond.instantiable "AnswerKeeper$Answer" 13 ∈ GW := GW_t 181 (by decide +kernel) (by decide +kernel)
theorem g182 : Cond.methodLink "AnswerKeeper" 78 ⟨"AnswerKeeper$Answer", "<init>", "(III)V"⟩ ∈ GW := GW_t 182 (by decide +kernel) (by decide +kernel)
theorem g183 : Cond.instanceMethod ⟨"AnswerKeeper$Answer", "<init>", "(III)V"⟩ ∈ GW := GW_t 183 (by decide +kernel) (by decide +kernel)
theorem g184 : Cond.code ⟨"AnswerKeeper$Answer", "<init>", "(III)V"⟩ prog_2_method_1_code 5 none ∈ GW := GW_t 184 (by decide +kernel) (by decide +kernel)
theorem g185 : Cond.methodLink "AnswerKeeper$Answer" 3 ⟨"java/lang/Object", "<init>", "()V"⟩ ∈ GW := GW_t 185 (by decide +kernel) (by decide +kernel)
theorem g186 : Cond.fieldLink "AnswerKeeper$Answer" 42 "AnswerKeeper$Answer" "number" "I" ∈ GW := GW_t 186 (by decide +kernel) (by decide +kernel)
theorem g187 : Cond.fieldLink "AnswerKeeper" 99 "AnswerKeeper$Answer" "number" "I" ∈ GW := GW_t 187 (by decide +kernel) (by decide +kernel)
theorem g188 : Cond.fieldLink "AnswerKeeper$Answer" 45 "AnswerKeeper$Answer" "kind" "I" ∈ GW := GW_t 188 (by decide +kernel) (by decide +kernel)
theorem g189 : Cond.fieldLink "AnswerKeeper" 282 "AnswerKeeper$Answer" "kind" "I" ∈ GW := GW_t 189 (by decide +kernel) (by decide +kernel)
theorem g190 : Cond.fieldLink "AnswerKeeper$Answer" 48 "AnswerKeeper$Answer" "steps" "I" ∈ GW := GW_t 190 (by decide +kernel) (by decide +kernel)
theorem g191 : Cond.fieldLink "AnswerKeeper" 158 "AnswerKeeper$Answer" "steps" "I" ∈ GW := GW_t 191 (by decide +kernel) (by decide +kernel)
theorem g192 : Cond.fieldLink "AnswerKeeper$Answer" 9 "AnswerKeeper$Answer" "sets" "[I" ∈ GW := GW_t 192 (by decide +kernel) (by decide +kernel)
theorem g193 : Cond.fieldLink "AnswerKeeper$Answer" 15 "AnswerKeeper$Answer" "parts" "[I" ∈ GW := GW_t 193 (by decide +kernel) (by decide +kernel)
theorem g194 : Cond.fieldLink "AnswerKeeper$Answer" 18 "AnswerKeeper$Answer" "words" "J" ∈ GW := GW_t 194 (by decide +kernel) (by decide +kernel)
theorem g195 : Cond.fieldLink "AnswerKeeper" 81 "AnswerKeeper$Answer" "words" "J" ∈ GW := GW_t 195 (by decide +kernel) (by decide +kernel)
theorem g196 : Cond.fieldLink "AnswerKeeper$Answer" 22 "AnswerKeeper$Answer" "things" "I" ∈ GW := GW_t 196 (by decide +kernel) (by decide +kernel)
theorem g197 : Cond.fieldLink "AnswerKeeper" 127 "AnswerKeeper$Answer" "things" "I" ∈ GW := GW_t 197 (by decide +kernel) (by decide +kernel)
theorem g198 : Cond.fieldLink "AnswerKeeper$Answer" 26 "AnswerKeeper$Answer" "sure" "I" ∈ GW := GW_t 198 (by decide +kernel) (by decide +kernel)
theorem g199 : Cond.fieldLink "AnswerKeeper" 92 "AnswerKeeper$Answer" "sure" "I" ∈ GW := GW_t 199 (by decide +kernel) (by decide +kernel)
theorem g200 : Cond.fieldLink "AnswerKeeper$Answer" 29 "AnswerKeeper$Answer" "votes" "I" ∈ GW := GW_t 200 (by decide +kernel) (by decide +kernel)
theorem g201 : Cond.fieldLink "AnswerKeeper" 152 "AnswerKeeper$Answer" "votes" "I" ∈ GW := GW_t 201 (by decide +kernel) (by decide +kernel)
theorem g202 : Cond.fieldLink "AnswerKeeper$Answer" 51 "AnswerKeeper$Answer" "end" "I" ∈ GW := GW_t 202 (by decide +kernel) (by decide +kernel)
theorem g203 : Cond.fieldLink "AnswerKeeper" 155 "AnswerKeeper$Answer" "end" "I" ∈ GW := GW_t 203 (by decide +kernel) (by decide +kernel)
theorem g204 : Cond.fieldLink "AnswerKeeper$Answer" 32 "AnswerKeeper$Answer" "folded" "J" ∈ GW := GW_t 204 (by decide +kernel) (by decide +kernel)
theorem g205 : Cond.fieldLink "AnswerKeeper" 292 "AnswerKeeper$Answer" "folded" "J" ∈ GW := GW_t 205 (by decide +kernel) (by decide +kernel)
theorem g206 : Cond.fieldLink "AnswerKeeper$Answer" 35 "AnswerKeeper$Answer" "doubted" "Z" ∈ GW := GW_t 206 (by decide +kernel) (by decide +kernel)
theorem g207 : Cond.fieldLink "AnswerKeeper" 288 "AnswerKeeper$Answer" "doubted" "Z" ∈ GW := GW_t 207 (by decide +kernel) (by decide +kernel)
theorem g208 : Cond.fieldLink "AnswerKeeper$Answer" 39 "AnswerKeeper$Answer" "under" "I" ∈ GW := GW_t 208 (by decide +kernel) (by decide +kernel)
theorem g209 : Cond.fieldLink "AnswerKeeper" 139 "AnswerKeeper$Answer" "under" "I" ∈ GW := GW_t 209 (by decide +kernel) (by decide +kernel)
theorem g237 : Cond.methodLink "AnswerKeeper" 85 ⟨"AnswerKeeper$Answer", "putSets", "(III)V"⟩ ∈ GW := GW_t 237 (by decide +kernel) (by decide +kernel)
theorem g238 : Cond.instanceMethod ⟨"AnswerKeeper$Answer", "putSets", "(III)V"⟩ ∈ GW := GW_t 238 (by decide +kernel) (by decide +kernel)
theorem g239 : Cond.selects "AnswerKeeper$Answer" ⟨"AnswerKeeper$Answer", "putSets", "(III)V"⟩ ⟨"AnswerKeeper$Answer", "putSets", "(III)V"⟩ ∈ GW := GW_t 239 (by decide +kernel) (by decide +kernel)
theorem g240 : Cond.code ⟨"AnswerKeeper$Answer", "putSets", "(III)V"⟩ prog_2_method_9_code 5 none ∈ GW := GW_t 240 (by decide +kernel) (by decide +kernel)
theorem g241 : Cond.methodLink "AnswerKeeper" 88 ⟨"AnswerKeeper$Things", "now", "()I"⟩ ∈ GW := GW_t 241 (by decide +kernel) (by decide +kernel)
theorem g242 : Cond.instanceMethod ⟨"AnswerKeeper$Things", "now", "()I"⟩ ∈ GW := GW_t 242 (by decide +kernel) (by decide +kernel)
theorem g243 : Cond.selects "AnswerKeeper$Things" ⟨"AnswerKeeper$Things", "now", "()I"⟩ ⟨"AnswerKeeper$Things", "now", "()I"⟩ ∈ GW := GW_t 243 (by decide +kernel) (by decide +kernel)
theorem g244 : Cond.code ⟨"AnswerKeeper$Things", "now", "()I"⟩ prog_5_method_2_code 1 (some FieldType.int) ∈ GW := GW_t 244 (by decide +kernel) (by decide +kernel)
theorem g245 : Cond.methodLink "AnswerKeeper" 95 ⟨"AnswerKeeper", "keep", "(LAnswerKeeper$Answer;)V"⟩ ∈ GW := GW_t 245 (by decide +kernel) (by decide +kernel)
theorem g247 : Cond.instanceMethod ⟨"AnswerKeeper", "keep", "(LAnswerKeeper$Answer;)V"⟩ ∈ GW := GW_t 247 (by decide +kernel) (by decide +kernel)
theorem g248 : Cond.code ⟨"AnswerKeeper", "keep", "(LAnswerKeeper$Answer;)V"⟩ prog_1_method_34_code 2 none ∈ GW := GW_t 248 (by decide +kernel) (by decide +kernel)
theorem g249 : Cond.methodLink "AnswerKeeperLaw" 34 ⟨"AnswerKeeper", "join", "(IIII)I"⟩ ∈ GW := GW_t 249 (by decide +kernel) (by decide +kernel)
theorem g250 : Cond.instanceMethod ⟨"AnswerKeeper", "join", "(IIII)I"⟩ ∈ GW := GW_t 250 (by decide +kernel) (by decide +kernel)
theorem g251 : Cond.selects "AnswerKeeper" ⟨"AnswerKeeper", "join", "(IIII)I"⟩ ⟨"AnswerKeeper", "join", "(IIII)I"⟩ ∈ GW := GW_t 251 (by decide +kernel) (by decide +kernel)
theorem g252 : Cond.code ⟨"AnswerKeeper", "join", "(IIII)I"⟩ prog_1_method_6_code 8 (some FieldType.int) ∈ GW := GW_t 252 (by decide +kernel) (by decide +kernel)
theorem g253 : Cond.methodLink "AnswerKeeper" 102 ⟨"AnswerKeeper", "isAnswer", "(I)Z"⟩ ∈ GW := GW_t 253 (by decide +kernel) (by decide +kernel)
theorem g255 : Cond.instanceMethod ⟨"AnswerKeeper", "isAnswer", "(I)Z"⟩ ∈ GW := GW_t 255 (by decide +kernel) (by decide +kernel)
theorem g256 : Cond.code ⟨"AnswerKeeper", "isAnswer", "(I)Z"⟩ prog_1_method_23_code 2 (some FieldType.boolean) ∈ GW := GW_t 256 (by decide +kernel) (by decide +kernel)
theorem g257 : Cond.methodLink "AnswerKeeper" 108 ⟨"java/lang/Integer", "bitCount", "(I)I"⟩ ∈ GW := GW_t 257 (by decide +kernel) (by decide +kernel)
theorem g258 : Cond.static ⟨"java/lang/Integer", "bitCount", "(I)I"⟩ ∈ GW := GW_t 258 (by decide +kernel) (by decide +kernel)
theorem g259 : Cond.code ⟨"java/lang/Integer", "bitCount", "(I)I"⟩ prog_8_method_49_code 1 (some FieldType.int) ∈ GW := GW_t 259 (by decide +kernel) (by decide +kernel)
theorem g260 : Cond.constant "java/lang/Integer" 265 1431655765 ∈ GW := GW_t 260 (by decide +kernel) (by decide +kernel)
theorem g261 : Cond.constant "java/lang/Integer" 266 858993459 ∈ GW := GW_t 261 (by decide +kernel) (by decide +kernel)
theorem g262 : Cond.constant "java/lang/Integer" 267 252645135 ∈ GW := GW_t 262 (by decide +kernel) (by decide +kernel)
theorem g263 : Cond.methodLink "AnswerKeeper" 113 ⟨"AnswerKeeper", "areAllPlain", "(I)Z"⟩ ∈ GW := GW_t 263 (by decide +kernel) (by decide +kernel)
theorem g265 : Cond.instanceMethod ⟨"AnswerKeeper", "areAllPlain", "(I)Z"⟩ ∈ GW := GW_t 265 (by decide +kernel) (by decide +kernel)
theorem g266 : Cond.code ⟨"AnswerKeeper", "areAllPlain", "(I)Z"⟩ prog_1_method_38_code 4 (some FieldType.boolean) ∈ GW := GW_t 266 (by decide +kernel) (by decide +kernel)
theorem g267 : Cond.methodLink "AnswerKeeper" 124 ⟨"AnswerKeeper$Answer", "kindNow", "()I"⟩ ∈ GW := GW_t 267 (by decide +kernel) (by decide +kernel)
theorem g268 : Cond.instanceMethod ⟨"AnswerKeeper$Answer", "kindNow", "()I"⟩ ∈ GW := GW_t 268 (by decide +kernel) (by decide +kernel)
theorem g269 : Cond.selects "AnswerKeeper$Answer" ⟨"AnswerKeeper$Answer", "kindNow", "()I"⟩ ⟨"AnswerKeeper$Answer", "kindNow", "()I"⟩ ∈ GW := GW_t 269 (by decide +kernel) (by decide +kernel)
theorem g270 : Cond.code ⟨"AnswerKeeper$Answer", "kindNow", "()I"⟩ prog_2_method_3_code 1 (some FieldType.int) ∈ GW := GW_t 270 (by decide +kernel) (by decide +kernel)
theorem g271 : Cond.methodLink "AnswerKeeper$Answer" 54 ⟨"AnswerKeeper$Answer", "isMoved", "()Z"⟩ ∈ GW := GW_t 271 (by decide +kernel) (by decide +kernel)
theorem g272 : Cond.instanceMethod ⟨"AnswerKeeper$Answer", "isMoved", "()Z"⟩ ∈ GW := GW_t 272 (by decide +kernel) (by decide +kernel)
theorem g273 : Cond.selects "AnswerKeeper$Answer" ⟨"AnswerKeeper$Answer", "isMoved", "()Z"⟩ ⟨"AnswerKeeper$Answer", "isMoved", "()Z"⟩ ∈ GW := GW_t 273 (by decide +kernel) (by decide +kernel)
theorem g274 : Cond.code ⟨"AnswerKeeper$Answer", "isMoved", "()Z"⟩ prog_2_method_2_code 1 (some FieldType.boolean) ∈ GW := GW_t 274 (by decide +kernel) (by decide +kernel)
theorem g275 : Cond.methodLink "AnswerKeeper" 116 ⟨"AnswerKeeper$Answer", "putParts", "(IIII)V"⟩ ∈ GW := GW_t 275 (by decide +kernel) (by decide +kernel)
theorem g276 : Cond.instanceMethod ⟨"AnswerKeeper$Answer", "putParts", "(IIII)V"⟩ ∈ GW := GW_t 276 (by decide +kernel) (by decide +kernel)
theorem g277 : Cond.selects "AnswerKeeper$Answer" ⟨"AnswerKeeper$Answer", "putParts", "(IIII)V"⟩ ⟨"AnswerKeeper$Answer", "putParts", "(IIII)V"⟩ ∈ GW := GW_t 277 (by decide +kernel) (by decide +kernel)
theorem g278 : Cond.code ⟨"AnswerKeeper$Answer", "putParts", "(IIII)V"⟩ prog_2_method_10_code 6 none ∈ GW := GW_t 278 (by decide +kernel) (by decide +kernel)
theorem g279 : Cond.methodLink "AnswerKeeperLaw" 39 ⟨"AnswerKeeper", "bind", "(II)I"⟩ ∈ GW := GW_t 279 (by decide +kernel) (by decide +kernel)
theorem g280 : Cond.instanceMethod ⟨"AnswerKeeper", "bind", "(II)I"⟩ ∈ GW := GW_t 280 (by decide +kernel) (by decide +kernel)
theorem g281 : Cond.selects "AnswerKeeper" ⟨"AnswerKeeper", "bind", "(II)I"⟩ ⟨"AnswerKeeper", "bind", "(II)I"⟩ ∈ GW := GW_t 281 (by decide +kernel) (by decide +kernel)
theorem g282 : Cond.code ⟨"AnswerKeeper", "bind", "(II)I"⟩ prog_1_method_7_code 5 (some FieldType.int) ∈ GW := GW_t 282 (by decide +kernel) (by decide +kernel)
theorem g283 : Cond.methodLink "AnswerKeeperLaw" 43 ⟨"AnswerKeeper", "confirm", "(I)I"⟩ ∈ GW := GW_t 283 (by decide +kernel) (by decide +kernel)
theorem g284 : Cond.instanceMethod ⟨"AnswerKeeper", "confirm", "(I)I"⟩ ∈ GW := GW_t 284 (by decide +kernel) (by decide +kernel)
theorem g285 : Cond.selects "AnswerKeeper" ⟨"AnswerKeeper", "confirm", "(I)I"⟩ ⟨"AnswerKeeper", "confirm", "(I)I"⟩ ∈ GW := GW_t 285 (by decide +kernel) (by decide +kernel)
theorem g286 : Cond.code ⟨"AnswerKeeper", "confirm", "(I)I"⟩ prog_1_method_8_code 4 (some FieldType.int) ∈ GW := GW_t 286 (by decide +kernel) (by decide +kernel)
theorem g287 : Cond.methodLink "AnswerKeeper" 129 ⟨"AnswerKeeper$Answer", "isDoubted", "()Z"⟩ ∈ GW := GW_t 287 (by decide +kernel) (by decide +kernel)
theorem g288 : Cond.instanceMethod ⟨"AnswerKeeper$Answer", "isDoubted", "()Z"⟩ ∈ GW := GW_t 288 (by decide +kernel) (by decide +kernel)
theorem g289 : Cond.selects "AnswerKeeper$Answer" ⟨"AnswerKeeper$Answer", "isDoubted", "()Z"⟩ ⟨"AnswerKeeper$Answer", "isDoubted", "()Z"⟩ ∈ GW := GW_t 289 (by decide +kernel) (by decide +kernel)
theorem g290 : Cond.code ⟨"AnswerKeeper$Answer", "isDoubted", "()Z"⟩ prog_2_method_4_code 1 (some FieldType.boolean) ∈ GW := GW_t 290 (by decide +kernel) (by decide +kernel)
theorem g291 : Cond.methodLink "AnswerKeeperLaw" 47 ⟨"AnswerKeeper", "move", "(II)I"⟩ ∈ GW := GW_t 291 (by decide +kernel) (by decide +kernel)
theorem g292 : Cond.instanceMethod ⟨"AnswerKeeper", "move", "(II)I"⟩ ∈ GW := GW_t 292 (by decide +kernel) (by decide +kernel)
theorem g293 : Cond.selects "AnswerKeeper" ⟨"AnswerKeeper", "move", "(II)I"⟩ ⟨"AnswerKeeper", "move", "(II)I"⟩ ∈ GW := GW_t 293 (by decide +kernel) (by decide +kernel)
theorem g294 : Cond.code ⟨"AnswerKeeper", "move", "(II)I"⟩ prog_1_method_9_code 5 (some FieldType.int) ∈ GW := GW_t 294 (by decide +kernel) (by decide +kernel)
theorem g295 : Cond.methodLink "AnswerKeeper" 136 ⟨"AnswerKeeper$Answer", "isMoved", "()Z"⟩ ∈ GW := GW_t 295 (by decide +kernel) (by decide +kernel)
theorem g296 : Cond.methodLink "AnswerKeeper" 142 ⟨"AnswerKeeper", "leadOn", "(II)V"⟩ ∈ GW := GW_t 296 (by decide +kernel) (by decide +kernel)
theorem g298 : Cond.instanceMethod ⟨"AnswerKeeper", "leadOn", "(II)V"⟩ ∈ GW := GW_t 298 (by decide +kernel) (by decide +kernel)
theorem g299 : Cond.code ⟨"AnswerKeeper", "leadOn", "(II)V"⟩ prog_1_method_36_code 5 none ∈ GW := GW_t 299 (by decide +kernel) (by decide +kernel)
theorem g300 : Cond.methodLink "AnswerKeeperLaw" 51 ⟨"AnswerKeeper", "melt", "(II)I"⟩ ∈ GW := GW_t 300 (by decide +kernel) (by decide +kernel)
theorem g301 : Cond.instanceMethod ⟨"AnswerKeeper", "melt", "(II)I"⟩ ∈ GW := GW_t 301 (by decide +kernel) (by decide +kernel)
theorem g302 : Cond.selects "AnswerKeeper" ⟨"AnswerKeeper", "melt", "(II)I"⟩ ⟨"AnswerKeeper", "melt", "(II)I"⟩ ∈ GW := GW_t 302 (by decide +kernel) (by decide +kernel)
theorem g303 : Cond.code ⟨"AnswerKeeper", "melt", "(II)I"⟩ prog_1_method_10_code 5 (some FieldType.int) ∈ GW := GW_t 303 (by decide +kernel) (by decide +kernel)
theorem g304 : Cond.methodLink "AnswerKeeper" 145 ⟨"AnswerKeeper", "mayMelt", "(LAnswerKeeper$Answer;LAnswerKeeper$Answer;)Z"⟩ ∈ GW := GW_t 304 (by decide +kernel) (by decide +kernel)
theorem g305 : Cond.static ⟨"AnswerKeeper", "mayMelt", "(LAnswerKeeper$Answer;LAnswerKeeper$Answer;)Z"⟩ ∈ GW := GW_t 305 (by decide +kernel) (by decide +kernel)
theorem g306 : Cond.code ⟨"AnswerKeeper", "mayMelt", "(LAnswerKeeper$Answer;LAnswerKeeper$Answer;)Z"⟩ prog_1_method_39_code 2 (some FieldType.boolean) ∈ GW := GW_t 306 (by decide +kernel) (by decide +kernel)
theorem g307 : Cond.methodLink "AnswerKeeper" 262 ⟨"AnswerKeeper", "likeSets", "(LAnswerKeeper$Answer;LAnswerKeeper$Answer;)I"⟩ ∈ GW := GW_t 307 (by decide +kernel) (by decide +kernel)
theorem g308 : Cond.static ⟨"AnswerKeeper", "likeSets", "(LAnswerKeeper$Answer;LAnswerKeeper$Answer;)I"⟩ ∈ GW := GW_t 308 (by decide +kernel) (by decide +kernel)
theorem g309 : Cond.code ⟨"AnswerKeeper", "likeSets", "(LAnswerKeeper$Answer;LAnswerKeeper$Answer;)I"⟩ prog_1_method_40_code 4 (some FieldType.int) ∈ GW := GW_t 309 (by decide +kernel) (by decide +kernel)
theorem g310 : Cond.methodLink "AnswerKeeper" 161 ⟨"AnswerKeeper$Answer", "setOf", "(I)I"⟩ ∈ GW := GW_t 310 (by decide +kernel) (by decide +kernel)
theorem g311 : Cond.methodLink "AnswerKeeper" 266 ⟨"AnswerKeeper", "isInside", "(LAnswerKeeper$Answer;LAnswerKeeper$Answer;)Z"⟩ ∈ GW := GW_t 311 (by decide +kernel) (by decide +kernel)
theorem g312 : Cond.static ⟨"AnswerKeeper", "isInside", "(LAnswerKeeper$Answer;LAnswerKeeper$Answer;)Z"⟩ ∈ GW := GW_t 312 (by decide +kernel) (by decide +kernel)
theorem g313 : Cond.code ⟨"AnswerKeeper", "isInside", "(LAnswerKeeper$Answer;LAnswerKeeper$Answer;)Z"⟩ prog_1_method_41_code 3 (some FieldType.boolean) ∈ GW := GW_t 313 (by decide +kernel) (by decide +kernel)
theorem g314 : Cond.methodLink "AnswerKeeper" 149 ⟨"AnswerKeeper$Answer", "takeAllOf", "(LAnswerKeeper$Answer;)V"⟩ ∈ GW := GW_t 314 (by decide +kernel) (by decide +kernel)
theorem g315 : Cond.instanceMethod ⟨"AnswerKeeper$Answer", "takeAllOf", "(LAnswerKeeper$Answer;)V"⟩ ∈ GW := GW_t 315 (by decide +kernel) (by decide +kernel)
theorem g316 : Cond.selects "AnswerKeeper$Answer" ⟨"AnswerKeeper$Answer", "takeAllOf", "(LAnswerKeeper$Answer;)V"⟩ ⟨"AnswerKeeper$Answer", "takeAllOf", "(LAnswerKeeper$Answer;)V"⟩ ∈ GW := GW_t 316 (by decide +kernel) (by decide +kernel)
theorem g317 : Cond.code ⟨"AnswerKeeper$Answer", "takeAllOf", "(LAnswerKeeper$Answer;)V"⟩ prog_2_method_11_code 3 none ∈ GW := GW_t 317 (by decide +kernel) (by decide +kernel)
theorem g318 : Cond.methodLink "AnswerKeeper$Answer" 65 ⟨"java/lang/Math", "min", "(II)I"⟩ ∈ GW := GW_t 318 (by decide +kernel) (by decide +kernel)
theorem g319 : Cond.static ⟨"java/lang/Math", "min", "(II)I"⟩ ∈ GW := GW_t 319 (by decide +kernel) (by decide +kernel)
theorem g320 : Cond.code ⟨"java/lang/Math", "min", "(II)I"⟩ prog_10_method_69_code 2 (some FieldType.int) ∈ GW := GW_t 320 (by decide +kernel) (by decide +kernel)
theorem g321 : Cond.methodLink "AnswerKeeperLaw" 55 ⟨"AnswerKeeper", "vote", "(IZ)I"⟩ ∈ GW := GW_t 321 (by decide +kernel) (by decide +kernel)
theorem g322 : Cond.instanceMethod ⟨"AnswerKeeper", "vote", "(IZ)I"⟩ ∈ GW := GW_t 322 (by decide +kernel) (by decide +kernel)
theorem g323 : Cond.selects "AnswerKeeper" ⟨"AnswerKeeper", "vote", "(IZ)I"⟩ ⟨"AnswerKeeper", "vote", "(IZ)I"⟩ ∈ GW := GW_t 323 (by decide +kernel) (by decide +kernel)
theorem g324 : Cond.code ⟨"AnswerKeeper", "vote", "(IZ)I"⟩ prog_1_method_11_code 4 (some FieldType.int) ∈ GW := GW_t 324 (by decide +kernel) (by decide +kernel)
theorem g325 : Cond.methodLink "AnswerKeeperLaw" 60 ⟨"AnswerKeeper", "told", "(II)I"⟩ ∈ GW := GW_t 325 (by decide +kernel) (by decide +kernel)
theorem g326 : Cond.instanceMethod ⟨"AnswerKeeper", "told", "(II)I"⟩ ∈ GW := GW_t 326 (by decide +kernel) (by decide +kernel)
theorem g327 : Cond.selects "AnswerKeeper" ⟨"AnswerKeeper", "told", "(II)I"⟩ ⟨"AnswerKeeper", "told", "(II)I"⟩ ∈ GW := GW_t 327 (by decide +kernel) (by decide +kernel)
theorem g328 : Cond.code ⟨"AnswerKeeper", "told", "(II)I"⟩ prog_1_method_12_code 4 (some FieldType.int) ∈ GW := GW_t 328 (by decide +kernel) (by decide +kernel)
theorem g329 : Cond.methodLink "AnswerKeeper" 164 ⟨"AnswerKeeper$Answer", "partCount", "()I"⟩ ∈ GW := GW_t 329 (by decide +kernel) (by decide +kernel)
theorem g330 : Cond.instanceMethod ⟨"AnswerKeeper$Answer", "partCount", "()I"⟩ ∈ GW := GW_t 330 (by decide +kernel) (by decide +kernel)
theorem g331 : Cond.selects "AnswerKeeper$Answer" ⟨"AnswerKeeper$Answer", "partCount", "()I"⟩ ⟨"AnswerKeeper$Answer", "partCount", "()I"⟩ ∈ GW := GW_t 331 (by decide +kernel) (by decide +kernel)
theorem g332 : Cond.code ⟨"AnswerKeeper$Answer", "partCount", "()I"⟩ prog_2_method_8_code 3 (some FieldType.int) ∈ GW := GW_t 332 (by decide +kernel) (by decide +kernel)
theorem g333 : Cond.methodLink "AnswerKeeper" 167 ⟨"AnswerKeeper", "partNow", "(LAnswerKeeper$Answer;I)I"⟩ ∈ GW := GW_t 333 (by decide +kernel) (by decide +kernel)
theorem g335 : Cond.instanceMethod ⟨"AnswerKeeper", "partNow", "(LAnswerKeeper$Answer;I)I"⟩ ∈ GW := GW_t 335 (by decide +kernel) (by decide +kernel)
theorem g336 : Cond.code ⟨"AnswerKeeper", "partNow", "(LAnswerKeeper$Answer;I)I"⟩ prog_1_method_37_code 4 (some FieldType.int) ∈ GW := GW_t 336 (by decide +kernel) (by decide +kernel)
theorem g337 : Cond.methodLink "AnswerKeeperLaw" 64 ⟨"AnswerKeeper", "words", "(I)J"⟩ ∈ GW := GW_t 337 (by decide +kernel) (by decide +kernel)
theorem g338 : Cond.instanceMethod ⟨"AnswerKeeper", "words", "(I)J"⟩ ∈ GW := GW_t 338 (by decide +kernel) (by decide +kernel)
theorem g339 : Cond.selects "AnswerKeeper" ⟨"AnswerKeeper", "words", "(I)J"⟩ ⟨"AnswerKeeper", "words", "(I)J"⟩ ∈ GW := GW_t 339 (by decide +kernel) (by decide +kernel)
theorem g340 : Cond.code ⟨"AnswerKeeper", "words", "(I)J"⟩ prog_1_method_13_code 3 (some FieldType.long) ∈ GW := GW_t 340 (by decide +kernel) (by decide +kernel)
theorem g341 : Cond.constantLong "AnswerKeeper" 171 (-1001) ∈ GW := GW_t 341 (by decide +kernel) (by decide +kernel)
theorem g342 : Cond.methodLink "AnswerKeeperLaw" 69 ⟨"AnswerKeeper", "holds", "(IIII)I"⟩ ∈ GW := GW_t 342 (by decide +kernel) (by decide +kernel)
theorem g343 : Cond.instanceMethod ⟨"AnswerKeeper", "holds", "(IIII)I"⟩ ∈ GW := GW_t 343 (by decide +kernel) (by decide +kernel)
theorem g344 : Cond.selects "AnswerKeeper" ⟨"AnswerKeeper", "holds", "(IIII)I"⟩ ⟨"AnswerKeeper", "holds", "(IIII)I"⟩ ∈ GW := GW_t 344 (by decide +kernel) (by decide +kernel)
theorem g345 : Cond.code ⟨"AnswerKeeper", "holds", "(IIII)I"⟩ prog_1_method_14_code 7 (some FieldType.int) ∈ GW := GW_t 345 (by decide +kernel) (by decide +kernel)
theorem g346 : Cond.methodLink "AnswerKeeper" 173 ⟨"AnswerKeeper", "isValue", "(II)Z"⟩ ∈ GW := GW_t 346 (by decide +kernel) (by decide +kernel)
theorem g347 : Cond.static ⟨"AnswerKeeper", "isValue", "(II)Z"⟩ ∈ GW := GW_t 347 (by decide +kernel) (by decide +kernel)
theorem g348 : Cond.code ⟨"AnswerKeeper", "isValue", "(II)Z"⟩ prog_1_method_29_code 2 (some FieldType.boolean) ∈ GW := GW_t 348 (by decide +kernel) (by decide +kernel)
theorem g349 : Cond.methodLink "AnswerKeeper" 176 ⟨"AnswerKeeper$Answer", "hasValue", "(II)Z"⟩ ∈ GW := GW_t 349 (by decide +kernel) (by decide +kernel)
theorem g350 : Cond.instanceMethod ⟨"AnswerKeeper$Answer", "hasValue", "(II)Z"⟩ ∈ GW := GW_t 350 (by decide +kernel) (by decide +kernel)
theorem g351 : Cond.selects "AnswerKeeper$Answer" ⟨"AnswerKeeper$Answer", "hasValue", "(II)Z"⟩ ⟨"AnswerKeeper$Answer", "hasValue", "(II)Z"⟩ ∈ GW := GW_t 351 (by decide +kernel) (by decide +kernel)
theorem g352 : Cond.code ⟨"AnswerKeeper$Answer", "hasValue", "(II)Z"⟩ prog_2_method_6_code 3 (some FieldType.boolean) ∈ GW := GW_t 352 (by decide +kernel) (by decide +kernel)
theorem g354 : Cond.methodLink "AnswerKeeperLaw" 73 ⟨"AnswerKeeper", "count", "(I)I"⟩ ∈ GW := GW_t 354 (by decide +kernel) (by decide +kernel)
theorem g355 : Cond.instanceMethod ⟨"AnswerKeeper", "count", "(I)I"⟩ ∈ GW := GW_t 355 (by decide +kernel) (by decide +kernel)
theorem g356 : Cond.selects "AnswerKeeper" ⟨"AnswerKeeper", "count", "(I)I"⟩ ⟨"AnswerKeeper", "count", "(I)I"⟩ ∈ GW := GW_t 356 (by decide +kernel) (by decide +kernel)
theorem g357 : Cond.code ⟨"AnswerKeeper", "count", "(I)I"⟩ prog_1_method_15_code 2 (some FieldType.int) ∈ GW := GW_t 357 (by decide +kernel) (by decide +kernel)
theorem g358 : Cond.methodLink "AnswerKeeper" 179 ⟨"AnswerKeeper", "kindCount", "(I)I"⟩ ∈ GW := GW_t 358 (by decide +kernel) (by decide +kernel)
theorem g360 : Cond.instanceMethod ⟨"AnswerKeeper", "kindCount", "(I)I"⟩ ∈ GW := GW_t 360 (by decide +kernel) (by decide +kernel)
theorem g361 : Cond.code ⟨"AnswerKeeper", "kindCount", "(I)I"⟩ prog_1_method_47_code 5 (some FieldType.int) ∈ GW := GW_t 361 (by decide +kernel) (by decide +kernel)
theorem g362 : Cond.methodLink "AnswerKeeper" 182 ⟨"AnswerKeeper", "doubtedCount", "()I"⟩ ∈ GW := GW_t 362 (by decide +kernel) (by decide +kernel)
theorem g364 : Cond.instanceMethod ⟨"AnswerKeeper", "doubtedCount", "()I"⟩ ∈ GW := GW_t 364 (by decide +kernel) (by decide +kernel)
theorem g365 : Cond.code ⟨"AnswerKeeper", "doubtedCount", "()I"⟩ prog_1_method_48_code 4 (some FieldType.int) ∈ GW := GW_t 365 (by decide +kernel) (by decide +kernel)
theorem g366 : Cond.methodLink "AnswerKeeper" 185 ⟨"AnswerKeeper", "quarrelCount", "()I"⟩ ∈ GW := GW_t 366 (by decide +kernel) (by decide +kernel)
theorem g368 : Cond.instanceMethod ⟨"AnswerKeeper", "quarrelCount", "()I"⟩ ∈ GW := GW_t 368 (by decide +kernel) (by decide +kernel)
theorem g369 : Cond.code ⟨"AnswerKeeper", "quarrelCount", "()I"⟩ prog_1_method_49_code 4 (some FieldType.int) ∈ GW := GW_t 369 (by decide +kernel) (by decide +kernel)
theorem g370 : Cond.methodLink "AnswerKeeper" 194 ⟨"AnswerKeeper", "areQuarrelling", "(LAnswerKeeper$Answer;LAnswerKeeper$Answer;)Z"⟩ ∈ GW := GW_t 370 (by decide +kernel) (by decide +kernel)
theorem g372 : Cond.instanceMethod ⟨"AnswerKeeper", "areQuarrelling", "(LAnswerKeeper$Answer;LAnswerKeeper$Answer;)Z"⟩ ∈ GW := GW_t 372 (by decide +kernel) (by decide +kernel)
theorem g373 : Cond.code ⟨"AnswerKeeper", "areQuarrelling", "(LAnswerKeeper$Answer;LAnswerKeeper$Answer;)Z"⟩ prog_1_method_50_code 4 (some FieldType.boolean) ∈ GW := GW_t 373 (by decide +kernel) (by decide +kernel)
theorem g374 : Cond.methodLink "AnswerKeeper" 302 ⟨"AnswerKeeper", "far", "(JJ)I"⟩ ∈ GW := GW_t 374 (by decide +kernel) (by decide +kernel)
theorem g375 : Cond.static ⟨"AnswerKeeper", "far", "(JJ)I"⟩ ∈ GW := GW_t 375 (by decide +kernel) (by decide +kernel)
theorem g376 : Cond.code ⟨"AnswerKeeper", "far", "(JJ)I"⟩ prog_1_method_33_code 4 (some FieldType.int) ∈ GW := GW_t 376 (by decide +kernel) (by decide +kernel)
theorem g377 : Cond.methodLink "AnswerKeeper" 254 ⟨"java/lang/Long", "bitCount", "(J)I"⟩ ∈ GW := GW_t 377 (by decide +kernel) (by decide +kernel)
theorem g378 : Cond.static ⟨"java/lang/Long", "bitCount", "(J)I"⟩ ∈ GW := GW_t 378 (by decide +kernel) (by decide +kernel)
theorem g379 : Cond.code ⟨"java/lang/Long", "bitCount", "(J)I"⟩ prog_9_method_50_code 2 (some FieldType.int) ∈ GW := GW_t 379 (by decide +kernel) (by decide +kernel)
theorem g380 : Cond.constantLong "java/lang/Long" 314 6148914691236517205 ∈ GW := GW_t 380 (by decide +kernel) (by decide +kernel)
theorem g381 : Cond.constantLong "java/lang/Long" 316 3689348814741910323 ∈ GW := GW_t 381 (by decide +kernel) (by decide +kernel)
theorem g382 : Cond.constantLong "java/lang/Long" 318 1085102592571150095 ∈ GW := GW_t 382 (by decide +kernel) (by decide +kernel)
theorem g383 : Cond.methodLink "AnswerKeeper" 188 ⟨"AnswerKeeper", "asksInVain", "()I"⟩ ∈ GW := GW_t 383 (by decide +kernel) (by decide +kernel)
theorem g385 : Cond.instanceMethod ⟨"AnswerKeeper", "asksInVain", "()I"⟩ ∈ GW := GW_t 385 (by decide +kernel) (by decide +kernel)
theorem g386 : Cond.code ⟨"AnswerKeeper", "asksInVain", "()I"⟩ prog_1_method_61_code 4 (some FieldType.int) ∈ GW := GW_t 386 (by decide +kernel) (by decide +kernel)
theorem g387 : Cond.methodLink "AnswerKeeper" 230 ⟨"AnswerKeeper", "findsSome", "(JLAnswerKeeper$Ask;)Z"⟩ ∈ GW := GW_t 387 (by decide +kernel) (by decide +kernel)
theorem g389 : Cond.instanceMethod ⟨"AnswerKeeper", "findsSome", "(JLAnswerKeeper$Ask;)Z"⟩ ∈ GW := GW_t 389 (by decide +kernel) (by decide +kernel)
theorem g390 : Cond.code ⟨"AnswerKeeper", "findsSome", "(JLAnswerKeeper$Ask;)Z"⟩ prog_1_method_56_code 5 (some FieldType.boolean) ∈ GW := GW_t 390 (by decide +kernel) (by decide +kernel)
theorem g391 : Cond.methodLink "AnswerKeeper" 322 ⟨"AnswerKeeper", "isFound", "(JLAnswerKeeper$Ask;LAnswerKeeper$Answer;)Z"⟩ ∈ GW := GW_t 391 (by decide +kernel) (by decide +kernel)
theorem g393 : Cond.instanceMethod ⟨"AnswerKeeper", "isFound", "(JLAnswerKeeper$Ask;LAnswerKeeper$Answer;)Z"⟩ ∈ GW := GW_t 393 (by decide +kernel) (by decide +kernel)
theorem g394 : Cond.code ⟨"AnswerKeeper", "isFound", "(JLAnswerKeeper$Ask;LAnswerKeeper$Answer;)Z"⟩ prog_1_method_55_code 5 (some FieldType.boolean) ∈ GW := GW_t 394 (by decide +kernel) (by decide +kernel)
theorem g395 : Cond.methodLink "AnswerKeeper" 226 ⟨"AnswerKeeper", "isFit", "(LAnswerKeeper$Ask;LAnswerKeeper$Answer;)Z"⟩ ∈ GW := GW_t 395 (by decide +kernel) (by decide +kernel)
theorem g396 : Cond.static ⟨"AnswerKeeper", "isFit", "(LAnswerKeeper$Ask;LAnswerKeeper$Answer;)Z"⟩ ∈ GW := GW_t 396 (by decide +kernel) (by decide +kernel)
theorem g397 : Cond.code ⟨"AnswerKeeper", "isFit", "(LAnswerKeeper$Ask;LAnswerKeeper$Answer;)Z"⟩ prog_1_method_52_code 4 (some FieldType.boolean) ∈ GW := GW_t 397 (by decide +kernel) (by decide +kernel)
theorem g398 : Cond.methodLink "AnswerKeeper" 309 ⟨"AnswerKeeper$Ask", "valueFor", "(I)I"⟩ ∈ GW := GW_t 398 (by decide +kernel) (by decide +kernel)
theorem g399 : Cond.instanceMethod ⟨"AnswerKeeper$Ask", "valueFor", "(I)I"⟩ ∈ GW := GW_t 399 (by decide +kernel) (by decide +kernel)
theorem g400 : Cond.selects "AnswerKeeper$Ask" ⟨"AnswerKeeper$Ask", "valueFor", "(I)I"⟩ ⟨"AnswerKeeper$Ask", "valueFor", "(I)I"⟩ ∈ GW := GW_t 400 (by decide +kernel) (by decide +kernel)
theorem g401 : Cond.code ⟨"AnswerKeeper$Ask", "valueFor", "(I)I"⟩ prog_3_method_2_code 2 (some FieldType.int) ∈ GW := GW_t 401 (by decide +kernel) (by decide +kernel)
theorem g402 : Cond.methodLink "AnswerKeeper" 218 ⟨"AnswerKeeper", "costOf", "(JLAnswerKeeper$Ask;LAnswerKeeper$Answer;)I"⟩ ∈ GW := GW_t 402 (by decide +kernel) (by decide +kernel)
theorem g403 : Cond.static ⟨"AnswerKeeper", "costOf", "(JLAnswerKeeper$Ask;LAnswerKeeper$Answer;)I"⟩ ∈ GW := GW_t 403 (by decide +kernel) (by decide +kernel)
theorem g404 : Cond.code ⟨"AnswerKeeper", "costOf", "(JLAnswerKeeper$Ask;LAnswerKeeper$Answer;)I"⟩ prog_1_method_54_code 9 (some FieldType.int) ∈ GW := GW_t 404 (by decide +kernel) (by decide +kernel)
theorem g405 : Cond.constantLong "AnswerKeeper" 312 (-1) ∈ GW := GW_t 405 (by decide +kernel) (by decide +kernel)
theorem g406 : Cond.methodLink "AnswerKeeper" 222 ⟨"AnswerKeeper", "questionOf", "(LAnswerKeeper$Ask;LAnswerKeeper$Answer;)I"⟩ ∈ GW := GW_t 406 (by decide +kernel) (by decide +kernel)
theorem g407 : Cond.static ⟨"AnswerKeeper", "questionOf", "(LAnswerKeeper$Ask;LAnswerKeeper$Answer;)I"⟩ ∈ GW := GW_t 407 (by decide +kernel) (by decide +kernel)
theorem g408 : Cond.code ⟨"AnswerKeeper", "questionOf", "(LAnswerKeeper$Ask;LAnswerKeeper$Answer;)I"⟩ prog_1_method_53_code 3 (some FieldType.int) ∈ GW := GW_t 408 (by decide +kernel) (by decide +kernel)
theorem g409 : Cond.methodLink "AnswerKeeper" 314 ⟨"java/lang/Math", "min", "(II)I"⟩ ∈ GW := GW_t 409 (by decide +kernel) (by decide +kernel)
theorem g410 : Cond.methodLink "AnswerKeeper" 319 ⟨"java/lang/Math", "max", "(II)I"⟩ ∈ GW := GW_t 410 (by decide +kernel) (by decide +kernel)
theorem g411 : Cond.static ⟨"java/lang/Math", "max", "(II)I"⟩ ∈ GW := GW_t 411 (by decide +kernel) (by decide +kernel)
theorem g412 : Cond.code ⟨"java/lang/Math", "max", "(II)I"⟩ prog_10_method_65_code 2 (some FieldType.int) ∈ GW := GW_t 412 (by decide +kernel) (by decide +kernel)
theorem g413 : Cond.methodLink "AnswerKeeper" 191 ⟨"AnswerKeeper", "heapCount", "(I)I"⟩ ∈ GW := GW_t 413 (by decide +kernel) (by decide +kernel)
theorem g415 : Cond.instanceMethod ⟨"AnswerKeeper", "heapCount", "(I)I"⟩ ∈ GW := GW_t 415 (by decide +kernel) (by decide +kernel)
theorem g416 : Cond.code ⟨"AnswerKeeper", "heapCount", "(I)I"⟩ prog_1_method_62_code 5 (some FieldType.int) ∈ GW := GW_t 416 (by decide +kernel) (by decide +kernel)
theorem g417 : Cond.methodLink "AnswerKeeper" 329 ⟨"AnswerKeeper", "heapFrom", "(II)I"⟩ ∈ GW := GW_t 417 (by decide +kernel) (by decide +kernel)
theorem g419 : Cond.instanceMethod ⟨"AnswerKeeper", "heapFrom", "(II)I"⟩ ∈ GW := GW_t 419 (by decide +kernel) (by decide +kernel)
theorem g420 : Cond.code ⟨"AnswerKeeper", "heapFrom", "(II)I"⟩ prog_1_method_64_code 6 (some FieldType.int) ∈ GW := GW_t 420 (by decide +kernel) (by decide +kernel)
theorem g421 : Cond.methodLink "AnswerKeeper" 332 ⟨"AnswerKeeper", "isNearOne", "(LAnswerKeeper$Ask;I)Z"⟩ ∈ GW := GW_t 421 (by decide +kernel) (by decide +kernel)
theorem g423 : Cond.instanceMethod ⟨"AnswerKeeper", "isNearOne", "(LAnswerKeeper$Ask;I)Z"⟩ ∈ GW := GW_t 423 (by decide +kernel) (by decide +kernel)
theorem g424 : Cond.code ⟨"AnswerKeeper", "isNearOne", "(LAnswerKeeper$Ask;I)Z"⟩ prog_1_method_65_code 5 (some FieldType.boolean) ∈ GW := GW_t 424 (by decide +kernel) (by decide +kernel)
theorem g425 : Cond.methodLink "AnswerKeeperLaw" 77 ⟨"AnswerKeeper", "quarrel", "(II)I"⟩ ∈ GW := GW_t 425 (by decide +kernel) (by decide +kernel)
theorem g426 : Cond.instanceMethod ⟨"AnswerKeeper", "quarrel", "(II)I"⟩ ∈ GW := GW_t 426 (by decide +kernel) (by decide +kernel)
theorem g427 : Cond.selects "AnswerKeeper" ⟨"AnswerKeeper", "quarrel", "(II)I"⟩ ⟨"AnswerKeeper", "quarrel", "(II)I"⟩ ∈ GW := GW_t 427 (by decide +kernel) (by decide +kernel)
theorem g428 : Cond.code ⟨"AnswerKeeper", "quarrel", "(II)I"⟩ prog_1_method_16_code 6 (some FieldType.int) ∈ GW := GW_t 428 (by decide +kernel) (by decide +kernel)
theorem g429 : Cond.methodLink "AnswerKeeper" 197 ⟨"AnswerKeeper", "quarrelPart", "(III)I"⟩ ∈ GW := GW_t 429 (by decide +kernel) (by decide +kernel)
theorem g431 : Cond.instanceMethod ⟨"AnswerKeeper", "quarrelPart", "(III)I"⟩ ∈ GW := GW_t 431 (by decide +kernel) (by decide +kernel)
theorem g432 : Cond.code ⟨"AnswerKeeper", "quarrelPart", "(III)I"⟩ prog_1_method_51_code 6 (some FieldType.int) ∈ GW := GW_t 432 (by decide +kernel) (by decide +kernel)
theorem g433 : Cond.methodLink "AnswerKeeper" 306 ⟨"AnswerKeeper", "least", "(I)I"⟩ ∈ GW := GW_t 433 (by decide +kernel) (by decide +kernel)
theorem g434 : Cond.static ⟨"AnswerKeeper", "least", "(I)I"⟩ ∈ GW := GW_t 434 (by decide +kernel) (by decide +kernel)
theorem g435 : Cond.code ⟨"AnswerKeeper", "least", "(I)I"⟩ prog_1_method_32_code 2 (some FieldType.int) ∈ GW := GW_t 435 (by decide +kernel) (by decide +kernel)
theorem g436 : Cond.methodLink "AnswerKeeperLaw" 81 ⟨"AnswerKeeper", "ask", "(JIII)I"⟩ ∈ GW := GW_t 436 (by decide +kernel) (by decide +kernel)
theorem g437 : Cond.instanceMethod ⟨"AnswerKeeper", "ask", "(JIII)I"⟩ ∈ GW := GW_t 437 (by decide +kernel) (by decide +kernel)
theorem g438 : Cond.selects "AnswerKeeper" ⟨"AnswerKeeper", "ask", "(JIII)I"⟩ ⟨"AnswerKeeper", "ask", "(JIII)I"⟩ ∈ GW := GW_t 438 (by decide +kernel) (by decide +kernel)
theorem g439 : Cond.code ⟨"AnswerKeeper", "ask", "(JIII)I"⟩ prog_1_method_17_code 6 (some FieldType.int) ∈ GW := GW_t 439 (by decide +kernel) (by decide +kernel)
theorem g440 : Cond.methodLink "AnswerKeeper" 201 ⟨"AnswerKeeper", "isValueOrNone", "(II)Z"⟩ ∈ GW := GW_t 440 (by decide +kernel) (by decide +kernel)
theorem g441 : Cond.static ⟨"AnswerKeeper", "isValueOrNone", "(II)Z"⟩ ∈ GW := GW_t 441 (by decide +kernel) (by decide +kernel)
theorem g442 : Cond.code ⟨"AnswerKeeper", "isValueOrNone", "(II)Z"⟩ prog_1_method_30_code 2 (some FieldType.boolean) ∈ GW := GW_t 442 (by decide +kernel) (by decide +kernel)
theorem g443 : Cond.instantiable "AnswerKeeper$Ask" 3 ∈ GW := GW_t 443 (by decide +kernel) (by decide +kernel)
theorem g444 : Cond.methodLink "AnswerKeeper" 204 ⟨"AnswerKeeper$Ask", "<init>", "(JIII)V"⟩ ∈ GW := GW_t 444 (by decide +kernel) (by decide +kernel)
theorem g445 : Cond.instanceMethod ⟨"AnswerKeeper$Ask", "<init>", "(JIII)V"⟩ ∈ GW := GW_t 445 (by decide +kernel) (by decide +kernel)
theorem g446 : Cond.code ⟨"AnswerKeeper$Ask", "<init>", "(JIII)V"⟩ prog_3_method_1_code 7 none ∈ GW := GW_t 446 (by decide +kernel) (by decide +kernel)
theorem g447 : Cond.methodLink "AnswerKeeper$Ask" 3 ⟨"java/lang/Object", "<init>", "()V"⟩ ∈ GW := GW_t 447 (by decide +kernel) (by decide +kernel)
theorem g448 : Cond.fieldLink "AnswerKeeper$Ask" 19 "AnswerKeeper$Ask" "words" "J" ∈ GW := GW_t 448 (by decide +kernel) (by decide +kernel)
theorem g449 : Cond.fieldLink "AnswerKeeper" 278 "AnswerKeeper$Ask" "words" "J" ∈ GW := GW_t 449 (by decide +kernel) (by decide +kernel)
theorem g450 : Cond.fieldLink "AnswerKeeper$Ask" 9 "AnswerKeeper$Ask" "values" "[I" ∈ GW := GW_t 450 (by decide +kernel) (by decide +kernel)
theorem g451 : Cond.fieldLink "AnswerKeeper$Ask" 15 "AnswerKeeper$Ask" "folded" "J" ∈ GW := GW_t 451 (by decide +kernel) (by decide +kernel)
theorem g452 : Cond.fieldLink "AnswerKeeper" 215 "AnswerKeeper$Ask" "folded" "J" ∈ GW := GW_t 452 (by decide +kernel) (by decide +kernel)
theorem g460 : Cond.methodLink "AnswerKeeperLaw" 86 ⟨"AnswerKeeper", "found", "(III)I"⟩ ∈ GW := GW_t 460 (by decide +kernel) (by decide +kernel)
theorem g461 : Cond.instanceMethod ⟨"AnswerKeeper", "found", "(III)I"⟩ ∈ GW := GW_t 461 (by decide +kernel) (by decide +kernel)
theorem g462 : Cond.selects "AnswerKeeper" ⟨"AnswerKeeper", "found", "(III)I"⟩ ⟨"AnswerKeeper", "found", "(III)I"⟩ ∈ GW := GW_t 462 (by decide +kernel) (by decide +kernel)
theorem g463 : Cond.code ⟨"AnswerKeeper", "found", "(III)I"⟩ prog_1_method_18_code 6 (some FieldType.int) ∈ GW := GW_t 463 (by decide +kernel) (by decide +kernel)
theorem g464 : Cond.methodLink "AnswerKeeper" 211 ⟨"AnswerKeeper", "foundAt", "(LAnswerKeeper$Ask;I)LAnswerKeeper$Answer;"⟩ ∈ GW := GW_t 464 (by decide +kernel) (by decide +kernel)
theorem g466 : Cond.instanceMethod ⟨"AnswerKeeper", "foundAt", "(LAnswerKeeper$Ask;I)LAnswerKeeper$Answer;"⟩ ∈ GW := GW_t 466 (by decide +kernel) (by decide +kernel)
theorem g467 : Cond.code ⟨"AnswerKeeper", "foundAt", "(LAnswerKeeper$Ask;I)LAnswerKeeper$Answer;"⟩ prog_1_method_58_code 5 (some (FieldType.object "AnswerKeeper$Answer")) ∈ GW := GW_t 467 (by decide +kernel) (by decide +kernel)
theorem g468 : Cond.methodLink "AnswerKeeper" 326 ⟨"AnswerKeeper", "betterCount", "(LAnswerKeeper$Ask;LAnswerKeeper$Answer;)I"⟩ ∈ GW := GW_t 468 (by decide +kernel) (by decide +kernel)
theorem g470 : Cond.instanceMethod ⟨"AnswerKeeper", "betterCount", "(LAnswerKeeper$Ask;LAnswerKeeper$Answer;)I"⟩ ∈ GW := GW_t 470 (by decide +kernel) (by decide +kernel)
theorem g471 : Cond.code ⟨"AnswerKeeper", "betterCount", "(LAnswerKeeper$Ask;LAnswerKeeper$Answer;)I"⟩ prog_1_method_59_code 8 (some FieldType.int) ∈ GW := GW_t 471 (by decide +kernel) (by decide +kernel)
theorem g472 : Cond.methodLink "AnswerKeeperLaw" 91 ⟨"AnswerKeeper", "cost", "(II)I"⟩ ∈ GW := GW_t 472 (by decide +kernel) (by decide +kernel)
theorem g473 : Cond.instanceMethod ⟨"AnswerKeeper", "cost", "(II)I"⟩ ∈ GW := GW_t 473 (by decide +kernel) (by decide +kernel)
theorem g474 : Cond.selects "AnswerKeeper" ⟨"AnswerKeeper", "cost", "(II)I"⟩ ⟨"AnswerKeeper", "cost", "(II)I"⟩ ∈ GW := GW_t 474 (by decide +kernel) (by decide +kernel)
theorem g475 : Cond.code ⟨"AnswerKeeper", "cost", "(II)I"⟩ prog_1_method_19_code 5 (some FieldType.int) ∈ GW := GW_t 475 (by decide +kernel) (by decide +kernel)
theorem g476 : Cond.methodLink "AnswerKeeperLaw" 95 ⟨"AnswerKeeper", "asked", "(II)I"⟩ ∈ GW := GW_t 476 (by decide +kernel) (by decide +kernel)
theorem g477 : Cond.instanceMethod ⟨"AnswerKeeper", "asked", "(II)I"⟩ ∈ GW := GW_t 477 (by decide +kernel) (by decide +kernel)
theorem g478 : Cond.selects "AnswerKeeper" ⟨"AnswerKeeper", "asked", "(II)I"⟩ ⟨"AnswerKeeper", "asked", "(II)I"⟩ ∈ GW := GW_t 478 (by decide +kernel) (by decide +kernel)
theorem g479 : Cond.code ⟨"AnswerKeeper", "asked", "(II)I"⟩ prog_1_method_20_code 4 (some FieldType.int) ∈ GW := GW_t 479 (by decide +kernel) (by decide +kernel)
theorem g480 : Cond.methodLink "AnswerKeeper" 234 ⟨"AnswerKeeper", "heapOf", "(II)I"⟩ ∈ GW := GW_t 480 (by decide +kernel) (by decide +kernel)
theorem g482 : Cond.instanceMethod ⟨"AnswerKeeper", "heapOf", "(II)I"⟩ ∈ GW := GW_t 482 (by decide +kernel) (by decide +kernel)
theorem g483 : Cond.code ⟨"AnswerKeeper", "heapOf", "(II)I"⟩ prog_1_method_63_code 7 (some FieldType.int) ∈ GW := GW_t 483 (by decide +kernel) (by decide +kernel)
theorem g484 : Cond.methodLink "AnswerKeeper" 238 ⟨"AnswerKeeper", "helpFor", "(LAnswerKeeper$Ask;)I"⟩ ∈ GW := GW_t 484 (by decide +kernel) (by decide +kernel)
theorem g486 : Cond.instanceMethod ⟨"AnswerKeeper", "helpFor", "(LAnswerKeeper$Ask;)I"⟩ ∈ GW := GW_t 486 (by decide +kernel) (by decide +kernel)
theorem g487 : Cond.code ⟨"AnswerKeeper", "helpFor", "(LAnswerKeeper$Ask;)I"⟩ prog_1_method_60_code 3 (some FieldType.int) ∈ GW := GW_t 487 (by decide +kernel) (by decide +kernel)
theorem g488 : Cond.methodLink "AnswerKeeper" 242 ⟨"AnswerKeeper", "foundCount", "(LAnswerKeeper$Ask;)I"⟩ ∈ GW := GW_t 488 (by decide +kernel) (by decide +kernel)
theorem g490 : Cond.instanceMethod ⟨"AnswerKeeper", "foundCount", "(LAnswerKeeper$Ask;)I"⟩ ∈ GW := GW_t 490 (by decide +kernel) (by decide +kernel)
theorem g491 : Cond.code ⟨"AnswerKeeper", "foundCount", "(LAnswerKeeper$Ask;)I"⟩ prog_1_method_57_code 4 (some FieldType.int) ∈ GW := GW_t 491 (by decide +kernel) (by decide +kernel)
theorem g492 : Cond.classLink "AnswerKeeperLaw" 10 "AnswerKeeperModel" ∈ GW := GW_t 492 (by decide +kernel) (by decide +kernel)
theorem g493 : Cond.instantiable "AnswerKeeperModel" 25 ∈ GW := GW_t 493 (by decide +kernel) (by decide +kernel)
theorem g494 : Cond.methodLink "AnswerKeeperLaw" 12 ⟨"AnswerKeeperModel", "<init>", "()V"⟩ ∈ GW := GW_t 494 (by decide +kernel) (by decide +kernel)
theorem g495 : Cond.instanceMethod ⟨"AnswerKeeperModel", "<init>", "()V"⟩ ∈ GW := GW_t 495 (by decide +kernel) (by decide +kernel)
theorem g496 : Cond.code ⟨"AnswerKeeperModel", "<init>", "()V"⟩ prog_7_method_1_code 2 none ∈ GW := GW_t 496 (by decide +kernel) (by decide +kernel)
theorem g497 : Cond.methodLink "AnswerKeeperModel" 1 ⟨"java/lang/Object", "<init>", "()V"⟩ ∈ GW := GW_t 497 (by decide +kernel) (by decide +kernel)
theorem g498 : Cond.fieldLink "AnswerKeeperModel" 7 "AnswerKeeperModel" "book" "[I" ∈ GW := GW_t 498 (by decide +kernel) (by decide +kernel)
theorem g499 : Cond.fieldLink "AnswerKeeperModel" 13 "AnswerKeeperModel" "states" "[I" ∈ GW := GW_t 499 (by decide +kernel) (by decide +kernel)
theorem g500 : Cond.fieldLink "AnswerKeeperModel" 16 "AnswerKeeperModel" "changedAt" "[I" ∈ GW := GW_t 500 (by decide +kernel) (by decide +kernel)
theorem g501 : Cond.fieldLink "AnswerKeeperModel" 90 "AnswerKeeperModel" "time" "I" ∈ GW := GW_t 501 (by decide +kernel) (by decide +kernel)
theorem g502 : Cond.fieldLink "AnswerKeeperModel" 19 "AnswerKeeperModel" "near" "I" ∈ GW := GW_t 502 (by decide +kernel) (by decide +kernel)
theorem g503 : Cond.fieldLink "AnswerKeeperModel" 23 "AnswerKeeperModel" "limit" "I" ∈ GW := GW_t 503 (by decide +kernel) (by decide +kernel)
theorem g504 : Cond.fieldLink "AnswerKeeperModel" 79 "AnswerKeeperModel" "answers" "I" ∈ GW := GW_t 504 (by decide +kernel) (by decide +kernel)
theorem g505 : Cond.fieldLink "AnswerKeeperModel" 26 "AnswerKeeperModel" "kinds" "[I" ∈ GW := GW_t 505 (by decide +kernel) (by decide +kernel)
theorem g506 : Cond.fieldLink "AnswerKeeperModel" 29 "AnswerKeeperModel" "leads" "[I" ∈ GW := GW_t 506 (by decide +kernel) (by decide +kernel)
theorem g507 : Cond.fieldLink "AnswerKeeperModel" 32 "AnswerKeeperModel" "words" "[J" ∈ GW := GW_t 507 (by decide +kernel) (by decide +kernel)
theorem g508 : Cond.fieldLink "AnswerKeeperModel" 36 "AnswerKeeperModel" "steps" "[I" ∈ GW := GW_t 508 (by decide +kernel) (by decide +kernel)
theorem g509 : Cond.fieldLink "AnswerKeeperModel" 39 "AnswerKeeperModel" "sets" "[I" ∈ GW := GW_t 509 (by decide +kernel) (by decide +kernel)
theorem g510 : Cond.fieldLink "AnswerKeeperModel" 42 "AnswerKeeperModel" "bound" "[I" ∈ GW := GW_t 510 (by decide +kernel) (by decide +kernel)
theorem g511 : Cond.fieldLink "AnswerKeeperModel" 45 "AnswerKeeperModel" "sure" "[I" ∈ GW := GW_t 511 (by decide +kernel) (by decide +kernel)
theorem g512 : Cond.fieldLink "AnswerKeeperModel" 48 "AnswerKeeperModel" "votes" "[I" ∈ GW := GW_t 512 (by decide +kernel) (by decide +kernel)
theorem g513 : Cond.fieldLink "AnswerKeeperModel" 51 "AnswerKeeperModel" "parts" "[I" ∈ GW := GW_t 513 (by decide +kernel) (by decide +kernel)
theorem g514 : Cond.fieldLink "AnswerKeeperModel" 175 "AnswerKeeperModel" "asks" "I" ∈ GW := GW_t 514 (by decide +kernel) (by decide +kernel)
theorem g515 : Cond.fieldLink "AnswerKeeperModel" 54 "AnswerKeeperModel" "askWords" "[J" ∈ GW := GW_t 515 (by decide +kernel) (by decide +kernel)
theorem g516 : Cond.fieldLink "AnswerKeeperModel" 57 "AnswerKeeperModel" "askValues" "[I" ∈ GW := GW_t 516 (by decide +kernel) (by decide +kernel)
theorem g517 : Cond.fieldLink "AnswerKeeperModel" 60 "AnswerKeeperModel" "known" "[Z" ∈ GW := GW_t 517 (by decide +kernel) (by decide +kernel)
theorem g518 : Cond.fieldLink "AnswerKeeperModel" 64 "AnswerKeeperModel" "allWords" "[J" ∈ GW := GW_t 518 (by decide +kernel) (by decide +kernel)
theorem g519 : Cond.fieldLink "AnswerKeeperModel" 67 "AnswerKeeperModel" "allSets" "[I" ∈ GW := GW_t 519 (by decide +kernel) (by decide +kernel)
theorem g520 : Cond.fieldLink "AnswerKeeperModel" 70 "AnswerKeeperModel" "allThings" "[I" ∈ GW := GW_t 520 (by decide +kernel) (by decide +kernel)
theorem g521 : Cond.fieldLink "AnswerKeeperModel" 73 "AnswerKeeperModel" "doubted" "[Z" ∈ GW := GW_t 521 (by decide +kernel) (by decide +kernel)
theorem g522 : Cond.fieldLink "AnswerKeeperModel" 76 "AnswerKeeperModel" "heaps" "[I" ∈ GW := GW_t 522 (by decide +kernel) (by decide +kernel)
theorem g574 : Cond.arrayClass FieldType.long ∈ GW := GW_t 574 (by decide +kernel) (by decide +kernel)
theorem g575 : Cond.arrayClass FieldType.boolean ∈ GW := GW_t 575 (by decide +kernel) (by decide +kernel)
theorem g576 : Cond.methodLink "AnswerKeeperLaw" 17 ⟨"AnswerKeeperModel", "fold", "(II)I"⟩ ∈ GW := GW_t 576 (by decide +kernel) (by decide +kernel)
theorem g577 : Cond.instanceMethod ⟨"AnswerKeeperModel", "fold", "(II)I"⟩ ∈ GW := GW_t 577 (by decide +kernel) (by decide +kernel)
theorem g578 : Cond.selects "AnswerKeeperModel" ⟨"AnswerKeeperModel", "fold", "(II)I"⟩ ⟨"AnswerKeeperModel", "fold", "(II)I"⟩ ∈ GW := GW_t 578 (by decide +kernel) (by decide +kernel)
theorem g579 : Cond.code ⟨"AnswerKeeperModel", "fold", "(II)I"⟩ prog_7_method_8_code 4 (some FieldType.int) ∈ GW := GW_t 579 (by decide +kernel) (by decide +kernel)
theorem g580 : Cond.constantLong "AnswerKeeperModel" 86 39 ∈ GW := GW_t 580 (by decide +kernel) (by decide +kernel)
theorem g581 : Cond.methodLink "AnswerKeeperModel" 82 ⟨"AnswerKeeperModel", "in", "(JJJ)Z"⟩ ∈ GW := GW_t 581 (by decide +kernel) (by decide +kernel)
theorem g582 : Cond.static ⟨"AnswerKeeperModel", "in", "(JJJ)Z"⟩ ∈ GW := GW_t 582 (by decide +kernel) (by decide +kernel)
theorem g583 : Cond.code ⟨"AnswerKeeperModel", "in", "(JJJ)Z"⟩ prog_7_method_3_code 6 (some FieldType.boolean) ∈ GW := GW_t 583 (by decide +kernel) (by decide +kernel)
theorem g584 : Cond.methodLink "AnswerKeeperLaw" 22 ⟨"AnswerKeeperModel", "changed", "(I)I"⟩ ∈ GW := GW_t 584 (by decide +kernel) (by decide +kernel)
theorem g585 : Cond.instanceMethod ⟨"AnswerKeeperModel", "changed", "(I)I"⟩ ∈ GW := GW_t 585 (by decide +kernel) (by decide +kernel)
theorem g586 : Cond.selects "AnswerKeeperModel" ⟨"AnswerKeeperModel", "changed", "(I)I"⟩ ⟨"AnswerKeeperModel", "changed", "(I)I"⟩ ∈ GW := GW_t 586 (by decide +kernel) (by decide +kernel)
theorem g587 : Cond.code ⟨"AnswerKeeperModel", "changed", "(I)I"⟩ prog_7_method_11_code 2 (some FieldType.int) ∈ GW := GW_t 587 (by decide +kernel) (by decide +kernel)
theorem g588 : Cond.constantLong "AnswerKeeperModel" 88 9 ∈ GW := GW_t 588 (by decide +kernel) (by decide +kernel)
theorem g589 : Cond.methodLink "AnswerKeeperLaw" 26 ⟨"AnswerKeeperModel", "rule", "(II)I"⟩ ∈ GW := GW_t 589 (by decide +kernel) (by decide +kernel)
theorem g590 : Cond.instanceMethod ⟨"AnswerKeeperModel", "rule", "(II)I"⟩ ∈ GW := GW_t 590 (by decide +kernel) (by decide +kernel)
theorem g591 : Cond.selects "AnswerKeeperModel" ⟨"AnswerKeeperModel", "rule", "(II)I"⟩ ⟨"AnswerKeeperModel", "rule", "(II)I"⟩ ∈ GW := GW_t 591 (by decide +kernel) (by decide +kernel)
theorem g592 : Cond.code ⟨"AnswerKeeperModel", "rule", "(II)I"⟩ prog_7_method_12_code 4 (some FieldType.int) ∈ GW := GW_t 592 (by decide +kernel) (by decide +kernel)
theorem g593 : Cond.constantLong "AnswerKeeperModel" 93 10 ∈ GW := GW_t 593 (by decide +kernel) (by decide +kernel)
theorem g594 : Cond.constantLong "AnswerKeeperModel" 95 200 ∈ GW := GW_t 594 (by decide +kernel) (by decide +kernel)
theorem g595 : Cond.methodLink "AnswerKeeperLaw" 33 ⟨"AnswerKeeperModel", "answer", "(JIIII)I"⟩ ∈ GW := GW_t 595 (by decide +kernel) (by decide +kernel)
theorem g596 : Cond.instanceMethod ⟨"AnswerKeeperModel", "answer", "(JIIII)I"⟩ ∈ GW := GW_t 596 (by decide +kernel) (by decide +kernel)
theorem g597 : Cond.selects "AnswerKeeperModel" ⟨"AnswerKeeperModel", "answer", "(JIIII)I"⟩ ⟨"AnswerKeeperModel", "answer", "(JIIII)I"⟩ ∈ GW := GW_t 597 (by decide +kernel) (by decide +kernel)
theorem g598 : Cond.code ⟨"AnswerKeeperModel", "answer", "(JIIII)I"⟩ prog_7_method_14_code 8 (some FieldType.int) ∈ GW := GW_t 598 (by decide +kernel) (by decide +kernel)
theorem g599 : Cond.constantLong "AnswerKeeperModel" 97 1099511627775 ∈ GW := GW_t 599 (by decide +kernel) (by decide +kernel)
theorem g600 : Cond.constantLong "AnswerKeeperModel" 99 9999 ∈ GW := GW_t 600 (by decide +kernel) (by decide +kernel)
theorem g601 : Cond.constantLong "AnswerKeeperModel" 101 255 ∈ GW := GW_t 601 (by decide +kernel) (by decide +kernel)
theorem g602 : Cond.constantLong "AnswerKeeperModel" 103 1023 ∈ GW := GW_t 602 (by decide +kernel) (by decide +kernel)
theorem g603 : Cond.constantLong "AnswerKeeperModel" 105 15 ∈ GW := GW_t 603 (by decide +kernel) (by decide +kernel)
theorem g604 : Cond.methodLink "AnswerKeeperModel" 107 ⟨"AnswerKeeperModel", "fresh", "(I)I"⟩ ∈ GW := GW_t 604 (by decide +kernel) (by decide +kernel)
theorem g606 : Cond.instanceMethod ⟨"AnswerKeeperModel", "fresh", "(I)I"⟩ ∈ GW := GW_t 606 (by decide +kernel) (by decide +kernel)
theorem g607 : Cond.code ⟨"AnswerKeeperModel", "fresh", "(I)I"⟩ prog_7_method_13_code 4 (some FieldType.int) ∈ GW := GW_t 607 (by decide +kernel) (by decide +kernel)
theorem g608 : Cond.methodLink "AnswerKeeperLaw" 38 ⟨"AnswerKeeperModel", "join", "(IIII)I"⟩ ∈ GW := GW_t 608 (by decide +kernel) (by decide +kernel)
theorem g609 : Cond.instanceMethod ⟨"AnswerKeeperModel", "join", "(IIII)I"⟩ ∈ GW := GW_t 609 (by decide +kernel) (by decide +kernel)
theorem g610 : Cond.selects "AnswerKeeperModel" ⟨"AnswerKeeperModel", "join", "(IIII)I"⟩ ⟨"AnswerKeeperModel", "join", "(IIII)I"⟩ ∈ GW := GW_t 610 (by decide +kernel) (by decide +kernel)
theorem g611 : Cond.code ⟨"AnswerKeeperModel", "join", "(IIII)I"⟩ prog_7_method_15_code 8 (some FieldType.int) ∈ GW := GW_t 611 (by decide +kernel) (by decide +kernel)
theorem g612 : Cond.methodLink "AnswerKeeperModel" 111 ⟨"AnswerKeeperModel", "is", "(I)Z"⟩ ∈ GW := GW_t 612 (by decide +kernel) (by decide +kernel)
theorem g614 : Cond.instanceMethod ⟨"AnswerKeeperModel", "is", "(I)Z"⟩ ∈ GW := GW_t 614 (by decide +kernel) (by decide +kernel)
theorem g615 : Cond.code ⟨"AnswerKeeperModel", "is", "(I)Z"⟩ prog_7_method_4_code 2 (some FieldType.boolean) ∈ GW := GW_t 615 (by decide +kernel) (by decide +kernel)
theorem g616 : Cond.methodLink "AnswerKeeperModel" 115 ⟨"AnswerKeeperModel", "isPlain", "(I)Z"⟩ ∈ GW := GW_t 616 (by decide +kernel) (by decide +kernel)
theorem g618 : Cond.instanceMethod ⟨"AnswerKeeperModel", "isPlain", "(I)Z"⟩ ∈ GW := GW_t 618 (by decide +kernel) (by decide +kernel)
theorem g619 : Cond.code ⟨"AnswerKeeperModel", "isPlain", "(I)Z"⟩ prog_7_method_5_code 2 (some FieldType.boolean) ∈ GW := GW_t 619 (by decide +kernel) (by decide +kernel)
theorem g620 : Cond.methodLink "AnswerKeeperLaw" 42 ⟨"AnswerKeeperModel", "bind", "(II)I"⟩ ∈ GW := GW_t 620 (by decide +kernel) (by decide +kernel)
theorem g621 : Cond.instanceMethod ⟨"AnswerKeeperModel", "bind", "(II)I"⟩ ∈ GW := GW_t 621 (by decide +kernel) (by decide +kernel)
theorem g622 : Cond.selects "AnswerKeeperModel" ⟨"AnswerKeeperModel", "bind", "(II)I"⟩ ⟨"AnswerKeeperModel", "bind", "(II)I"⟩ ∈ GW := GW_t 622 (by decide +kernel) (by decide +kernel)
theorem g623 : Cond.code ⟨"AnswerKeeperModel", "bind", "(II)I"⟩ prog_7_method_16_code 4 (some FieldType.int) ∈ GW := GW_t 623 (by decide +kernel) (by decide +kernel)
theorem g624 : Cond.methodLink "AnswerKeeperLaw" 46 ⟨"AnswerKeeperModel", "confirm", "(I)I"⟩ ∈ GW := GW_t 624 (by decide +kernel) (by decide +kernel)
theorem g625 : Cond.instanceMethod ⟨"AnswerKeeperModel", "confirm", "(I)I"⟩ ∈ GW := GW_t 625 (by decide +kernel) (by decide +kernel)
theorem g626 : Cond.selects "AnswerKeeperModel" ⟨"AnswerKeeperModel", "confirm", "(I)I"⟩ ⟨"AnswerKeeperModel", "confirm", "(I)I"⟩ ∈ GW := GW_t 626 (by decide +kernel) (by decide +kernel)
theorem g627 : Cond.code ⟨"AnswerKeeperModel", "confirm", "(I)I"⟩ prog_7_method_17_code 2 (some FieldType.int) ∈ GW := GW_t 627 (by decide +kernel) (by decide +kernel)
theorem g628 : Cond.methodLink "AnswerKeeperModel" 118 ⟨"AnswerKeeperModel", "work", "()V"⟩ ∈ GW := GW_t 628 (by decide +kernel) (by decide +kernel)
theorem g630 : Cond.instanceMethod ⟨"AnswerKeeperModel", "work", "()V"⟩ ∈ GW := GW_t 630 (by decide +kernel) (by decide +kernel)
theorem g631 : Cond.code ⟨"AnswerKeeperModel", "work", "()V"⟩ prog_7_method_20_code 3 none ∈ GW := GW_t 631 (by decide +kernel) (by decide +kernel)
theorem g632 : Cond.methodLink "AnswerKeeperModel" 127 ⟨"AnswerKeeperModel", "workPlain", "(I)V"⟩ ∈ GW := GW_t 632 (by decide +kernel) (by decide +kernel)
theorem g634 : Cond.instanceMethod ⟨"AnswerKeeperModel", "workPlain", "(I)V"⟩ ∈ GW := GW_t 634 (by decide +kernel) (by decide +kernel)
theorem g635 : Cond.code ⟨"AnswerKeeperModel", "workPlain", "(I)V"⟩ prog_7_method_18_code 3 none ∈ GW := GW_t 635 (by decide +kernel) (by decide +kernel)
theorem g636 : Cond.methodLink "AnswerKeeperModel" 131 ⟨"AnswerKeeperModel", "workJoined", "(I)V"⟩ ∈ GW := GW_t 636 (by decide +kernel) (by decide +kernel)
theorem g638 : Cond.instanceMethod ⟨"AnswerKeeperModel", "workJoined", "(I)V"⟩ ∈ GW := GW_t 638 (by decide +kernel) (by decide +kernel)
theorem g639 : Cond.code ⟨"AnswerKeeperModel", "workJoined", "(I)V"⟩ prog_7_method_19_code 6 none ∈ GW := GW_t 639 (by decide +kernel) (by decide +kernel)
theorem g640 : Cond.methodLink "AnswerKeeperModel" 121 ⟨"AnswerKeeperModel", "endOf", "(I)I"⟩ ∈ GW := GW_t 640 (by decide +kernel) (by decide +kernel)
theorem g642 : Cond.instanceMethod ⟨"AnswerKeeperModel", "endOf", "(I)I"⟩ ∈ GW := GW_t 642 (by decide +kernel) (by decide +kernel)
theorem g643 : Cond.code ⟨"AnswerKeeperModel", "endOf", "(I)I"⟩ prog_7_method_6_code 3 (some FieldType.int) ∈ GW := GW_t 643 (by decide +kernel) (by decide +kernel)
theorem g644 : Cond.methodLink "AnswerKeeperModel" 124 ⟨"AnswerKeeperModel", "allOf", "(I)I"⟩ ∈ GW := GW_t 644 (by decide +kernel) (by decide +kernel)
theorem g645 : Cond.static ⟨"AnswerKeeperModel", "allOf", "(I)I"⟩ ∈ GW := GW_t 645 (by decide +kernel) (by decide +kernel)
theorem g646 : Cond.code ⟨"AnswerKeeperModel", "allOf", "(I)I"⟩ prog_7_method_7_code 1 (some FieldType.int) ∈ GW := GW_t 646 (by decide +kernel) (by decide +kernel)
theorem g647 : Cond.methodLink "AnswerKeeperLaw" 50 ⟨"AnswerKeeperModel", "move", "(II)I"⟩ ∈ GW := GW_t 647 (by decide +kernel) (by decide +kernel)
theorem g648 : Cond.instanceMethod ⟨"AnswerKeeperModel", "move", "(II)I"⟩ ∈ GW := GW_t 648 (by decide +kernel) (by decide +kernel)
theorem g649 : Cond.selects "AnswerKeeperModel" ⟨"AnswerKeeperModel", "move", "(II)I"⟩ ⟨"AnswerKeeperModel", "move", "(II)I"⟩ ∈ GW := GW_t 649 (by decide +kernel) (by decide +kernel)
theorem g650 : Cond.code ⟨"AnswerKeeperModel", "move", "(II)I"⟩ prog_7_method_22_code 4 (some FieldType.int) ∈ GW := GW_t 650 (by decide +kernel) (by decide +kernel)
theorem g651 : Cond.methodLink "AnswerKeeperModel" 134 ⟨"AnswerKeeperModel", "hasPart", "(II)Z"⟩ ∈ GW := GW_t 651 (by decide +kernel) (by decide +kernel)
theorem g653 : Cond.instanceMethod ⟨"AnswerKeeperModel", "hasPart", "(II)Z"⟩ ∈ GW := GW_t 653 (by decide +kernel) (by decide +kernel)
theorem g654 : Cond.code ⟨"AnswerKeeperModel", "hasPart", "(II)Z"⟩ prog_7_method_21_code 6 (some FieldType.boolean) ∈ GW := GW_t 654 (by decide +kernel) (by decide +kernel)
theorem g655 : Cond.methodLink "AnswerKeeperLaw" 54 ⟨"AnswerKeeperModel", "melt", "(II)I"⟩ ∈ GW := GW_t 655 (by decide +kernel) (by decide +kernel)
theorem g656 : Cond.instanceMethod ⟨"AnswerKeeperModel", "melt", "(II)I"⟩ ∈ GW := GW_t 656 (by decide +kernel) (by decide +kernel)
theorem g657 : Cond.selects "AnswerKeeperModel" ⟨"AnswerKeeperModel", "melt", "(II)I"⟩ ⟨"AnswerKeeperModel", "melt", "(II)I"⟩ ∈ GW := GW_t 657 (by decide +kernel) (by decide +kernel)
theorem g658 : Cond.code ⟨"AnswerKeeperModel", "melt", "(II)I"⟩ prog_7_method_24_code 5 (some FieldType.int) ∈ GW := GW_t 658 (by decide +kernel) (by decide +kernel)
theorem g659 : Cond.methodLink "AnswerKeeperModel" 138 ⟨"AnswerKeeperModel", "isWithin", "(II)Z"⟩ ∈ GW := GW_t 659 (by decide +kernel) (by decide +kernel)
theorem g661 : Cond.instanceMethod ⟨"AnswerKeeperModel", "isWithin", "(II)Z"⟩ ∈ GW := GW_t 661 (by decide +kernel) (by decide +kernel)
theorem g662 : Cond.code ⟨"AnswerKeeperModel", "isWithin", "(II)Z"⟩ prog_7_method_23_code 5 (some FieldType.boolean) ∈ GW := GW_t 662 (by decide +kernel) (by decide +kernel)
theorem g663 : Cond.methodLink "AnswerKeeperLaw" 59 ⟨"AnswerKeeperModel", "vote", "(IZ)I"⟩ ∈ GW := GW_t 663 (by decide +kernel) (by decide +kernel)
theorem g664 : Cond.instanceMethod ⟨"AnswerKeeperModel", "vote", "(IZ)I"⟩ ∈ GW := GW_t 664 (by decide +kernel) (by decide +kernel)
theorem g665 : Cond.selects "AnswerKeeperModel" ⟨"AnswerKeeperModel", "vote", "(IZ)I"⟩ ⟨"AnswerKeeperModel", "vote", "(IZ)I"⟩ ∈ GW := GW_t 665 (by decide +kernel) (by decide +kernel)
theorem g666 : Cond.code ⟨"AnswerKeeperModel", "vote", "(IZ)I"⟩ prog_7_method_25_code 3 (some FieldType.int) ∈ GW := GW_t 666 (by decide +kernel) (by decide +kernel)
theorem g667 : Cond.methodLink "AnswerKeeperLaw" 63 ⟨"AnswerKeeperModel", "told", "(II)I"⟩ ∈ GW := GW_t 667 (by decide +kernel) (by decide +kernel)
theorem g668 : Cond.instanceMethod ⟨"AnswerKeeperModel", "told", "(II)I"⟩ ∈ GW := GW_t 668 (by decide +kernel) (by decide +kernel)
theorem g669 : Cond.selects "AnswerKeeperModel" ⟨"AnswerKeeperModel", "told", "(II)I"⟩ ⟨"AnswerKeeperModel", "told", "(II)I"⟩ ∈ GW := GW_t 669 (by decide +kernel) (by decide +kernel)
theorem g670 : Cond.code ⟨"AnswerKeeperModel", "told", "(II)I"⟩ prog_7_method_27_code 4 (some FieldType.int) ∈ GW := GW_t 670 (by decide +kernel) (by decide +kernel)
theorem g671 : Cond.constantLong "AnswerKeeperModel" 141 13 ∈ GW := GW_t 671 (by decide +kernel) (by decide +kernel)
theorem g672 : Cond.methodLink "AnswerKeeperModel" 143 ⟨"AnswerKeeperModel", "partMany", "(I)I"⟩ ∈ GW := GW_t 672 (by decide +kernel) (by decide +kernel)
theorem g674 : Cond.instanceMethod ⟨"AnswerKeeperModel", "partMany", "(I)I"⟩ ∈ GW := GW_t 674 (by decide +kernel) (by decide +kernel)
theorem g675 : Cond.code ⟨"AnswerKeeperModel", "partMany", "(I)I"⟩ prog_7_method_26_code 4 (some FieldType.int) ∈ GW := GW_t 675 (by decide +kernel) (by decide +kernel)
theorem g676 : Cond.methodLink "AnswerKeeperLaw" 68 ⟨"AnswerKeeperModel", "words", "(I)J"⟩ ∈ GW := GW_t 676 (by decide +kernel) (by decide +kernel)
theorem g677 : Cond.instanceMethod ⟨"AnswerKeeperModel", "words", "(I)J"⟩ ∈ GW := GW_t 677 (by decide +kernel) (by decide +kernel)
theorem g678 : Cond.selects "AnswerKeeperModel" ⟨"AnswerKeeperModel", "words", "(I)J"⟩ ⟨"AnswerKeeperModel", "words", "(I)J"⟩ ∈ GW := GW_t 678 (by decide +kernel) (by decide +kernel)
theorem g679 : Cond.code ⟨"AnswerKeeperModel", "words", "(I)J"⟩ prog_7_method_28_code 2 (some FieldType.long) ∈ GW := GW_t 679 (by decide +kernel) (by decide +kernel)
theorem g680 : Cond.constantLong "AnswerKeeperModel" 146 (-1001) ∈ GW := GW_t 680 (by decide +kernel) (by decide +kernel)
theorem g681 : Cond.methodLink "AnswerKeeperLaw" 72 ⟨"AnswerKeeperModel", "holds", "(IIII)I"⟩ ∈ GW := GW_t 681 (by decide +kernel) (by decide +kernel)
theorem g682 : Cond.instanceMethod ⟨"AnswerKeeperModel", "holds", "(IIII)I"⟩ ∈ GW := GW_t 682 (by decide +kernel) (by decide +kernel)
theorem g683 : Cond.selects "AnswerKeeperModel" ⟨"AnswerKeeperModel", "holds", "(IIII)I"⟩ ⟨"AnswerKeeperModel", "holds", "(IIII)I"⟩ ∈ GW := GW_t 683 (by decide +kernel) (by decide +kernel)
theorem g684 : Cond.code ⟨"AnswerKeeperModel", "holds", "(IIII)I"⟩ prog_7_method_30_code 6 (some FieldType.int) ∈ GW := GW_t 684 (by decide +kernel) (by decide +kernel)
theorem g685 : Cond.methodLink "AnswerKeeperModel" 152 ⟨"AnswerKeeperModel", "isValue", "(II)Z"⟩ ∈ GW := GW_t 685 (by decide +kernel) (by decide +kernel)
theorem g686 : Cond.static ⟨"AnswerKeeperModel", "isValue", "(II)Z"⟩ ∈ GW := GW_t 686 (by decide +kernel) (by decide +kernel)
theorem g687 : Cond.code ⟨"AnswerKeeperModel", "isValue", "(II)Z"⟩ prog_7_method_29_code 2 (some FieldType.boolean) ∈ GW := GW_t 687 (by decide +kernel) (by decide +kernel)
theorem g688 : Cond.constantLong "AnswerKeeperModel" 148 7 ∈ GW := GW_t 688 (by decide +kernel) (by decide +kernel)
theorem g689 : Cond.constantLong "AnswerKeeperModel" 150 3 ∈ GW := GW_t 689 (by decide +kernel) (by decide +kernel)
theorem g690 : Cond.methodLink "AnswerKeeperLaw" 80 ⟨"AnswerKeeperModel", "quarrel", "(II)I"⟩ ∈ GW := GW_t 690 (by decide +kernel) (by decide +kernel)
theorem g691 : Cond.instanceMethod ⟨"AnswerKeeperModel", "quarrel", "(II)I"⟩ ∈ GW := GW_t 691 (by decide +kernel) (by decide +kernel)
theorem g692 : Cond.selects "AnswerKeeperModel" ⟨"AnswerKeeperModel", "quarrel", "(II)I"⟩ ⟨"AnswerKeeperModel", "quarrel", "(II)I"⟩ ∈ GW := GW_t 692 (by decide +kernel) (by decide +kernel)
theorem g693 : Cond.code ⟨"AnswerKeeperModel", "quarrel", "(II)I"⟩ prog_7_method_34_code 6 (some FieldType.int) ∈ GW := GW_t 693 (by decide +kernel) (by decide +kernel)
theorem g694 : Cond.constantLong "AnswerKeeperModel" 167 4 ∈ GW := GW_t 694 (by decide +kernel) (by decide +kernel)
theorem g695 : Cond.methodLink "AnswerKeeperModel" 169 ⟨"AnswerKeeperModel", "quarrels", "(II)Z"⟩ ∈ GW := GW_t 695 (by decide +kernel) (by decide +kernel)
theorem g697 : Cond.instanceMethod ⟨"AnswerKeeperModel", "quarrels", "(II)Z"⟩ ∈ GW := GW_t 697 (by decide +kernel) (by decide +kernel)
theorem g698 : Cond.code ⟨"AnswerKeeperModel", "quarrels", "(II)Z"⟩ prog_7_method_32_code 5 (some FieldType.boolean) ∈ GW := GW_t 698 (by decide +kernel) (by decide +kernel)
theorem g699 : Cond.methodLink "AnswerKeeperModel" 163 ⟨"AnswerKeeperModel", "far", "(JJ)I"⟩ ∈ GW := GW_t 699 (by decide +kernel) (by decide +kernel)
theorem g701 : Cond.instanceMethod ⟨"AnswerKeeperModel", "far", "(JJ)I"⟩ ∈ GW := GW_t 701 (by decide +kernel) (by decide +kernel)
theorem g702 : Cond.code ⟨"AnswerKeeperModel", "far", "(JJ)I"⟩ prog_7_method_31_code 5 (some FieldType.int) ∈ GW := GW_t 702 (by decide +kernel) (by decide +kernel)
theorem g703 : Cond.methodLink "AnswerKeeperModel" 155 ⟨"AnswerKeeperModel", "folded", "(J)J"⟩ ∈ GW := GW_t 703 (by decide +kernel) (by decide +kernel)
theorem g705 : Cond.instanceMethod ⟨"AnswerKeeperModel", "folded", "(J)J"⟩ ∈ GW := GW_t 705 (by decide +kernel) (by decide +kernel)
theorem g706 : Cond.code ⟨"AnswerKeeperModel", "folded", "(J)J"⟩ prog_7_method_9_code 6 (some FieldType.long) ∈ GW := GW_t 706 (by decide +kernel) (by decide +kernel)
theorem g707 : Cond.methodLink "AnswerKeeperModel" 159 ⟨"AnswerKeeperModel", "many", "(J)I"⟩ ∈ GW := GW_t 707 (by decide +kernel) (by decide +kernel)
theorem g708 : Cond.static ⟨"AnswerKeeperModel", "many", "(J)I"⟩ ∈ GW := GW_t 708 (by decide +kernel) (by decide +kernel)
theorem g709 : Cond.code ⟨"AnswerKeeperModel", "many", "(J)I"⟩ prog_7_method_10_code 4 (some FieldType.int) ∈ GW := GW_t 709 (by decide +kernel) (by decide +kernel)
theorem g710 : Cond.methodLink "AnswerKeeperModel" 172 ⟨"AnswerKeeperModel", "leastOf", "(I)I"⟩ ∈ GW := GW_t 710 (by decide +kernel) (by decide +kernel)
theorem g711 : Cond.static ⟨"AnswerKeeperModel", "leastOf", "(I)I"⟩ ∈ GW := GW_t 711 (by decide +kernel) (by decide +kernel)
theorem g712 : Cond.code ⟨"AnswerKeeperModel", "leastOf", "(I)I"⟩ prog_7_method_33_code 2 (some FieldType.int) ∈ GW := GW_t 712 (by decide +kernel) (by decide +kernel)
theorem g713 : Cond.methodLink "AnswerKeeperLaw" 85 ⟨"AnswerKeeperModel", "ask", "(JIII)I"⟩ ∈ GW := GW_t 713 (by decide +kernel) (by decide +kernel)
theorem g714 : Cond.instanceMethod ⟨"AnswerKeeperModel", "ask", "(JIII)I"⟩ ∈ GW := GW_t 714 (by decide +kernel) (by decide +kernel)
theorem g715 : Cond.selects "AnswerKeeperModel" ⟨"AnswerKeeperModel", "ask", "(JIII)I"⟩ ⟨"AnswerKeeperModel", "ask", "(JIII)I"⟩ ∈ GW := GW_t 715 (by decide +kernel) (by decide +kernel)
theorem g716 : Cond.code ⟨"AnswerKeeperModel", "ask", "(JIII)I"⟩ prog_7_method_35_code 7 (some FieldType.int) ∈ GW := GW_t 716 (by decide +kernel) (by decide +kernel)
theorem g717 : Cond.methodLink "AnswerKeeperLaw" 94 ⟨"AnswerKeeperModel", "cost", "(II)I"⟩ ∈ GW := GW_t 717 (by decide +kernel) (by decide +kernel)
theorem g718 : Cond.instanceMethod ⟨"AnswerKeeperModel", "cost", "(II)I"⟩ ∈ GW := GW_t 718 (by decide +kernel) (by decide +kernel)
theorem g719 : Cond.selects "AnswerKeeperModel" ⟨"AnswerKeeperModel", "cost", "(II)I"⟩ ⟨"AnswerKeeperModel", "cost", "(II)I"⟩ ∈ GW := GW_t 719 (by decide +kernel) (by decide +kernel)
theorem g720 : Cond.code ⟨"AnswerKeeperModel", "cost", "(II)I"⟩ prog_7_method_41_code 3 (some FieldType.int) ∈ GW := GW_t 720 (by decide +kernel) (by decide +kernel)
theorem g721 : Cond.methodLink "AnswerKeeperModel" 191 ⟨"AnswerKeeperModel", "isAsk", "(I)Z"⟩ ∈ GW := GW_t 721 (by decide +kernel) (by decide +kernel)
theorem g723 : Cond.instanceMethod ⟨"AnswerKeeperModel", "isAsk", "(I)Z"⟩ ∈ GW := GW_t 723 (by decide +kernel) (by decide +kernel)
theorem g724 : Cond.code ⟨"AnswerKeeperModel", "isAsk", "(I)Z"⟩ prog_7_method_36_code 2 (some FieldType.boolean) ∈ GW := GW_t 724 (by decide +kernel) (by decide +kernel)
theorem g725 : Cond.methodLink "AnswerKeeperModel" 184 ⟨"AnswerKeeperModel", "isFit", "(II)Z"⟩ ∈ GW := GW_t 725 (by decide +kernel) (by decide +kernel)
theorem g727 : Cond.instanceMethod ⟨"AnswerKeeperModel", "isFit", "(II)Z"⟩ ∈ GW := GW_t 727 (by decide +kernel) (by decide +kernel)
theorem g728 : Cond.code ⟨"AnswerKeeperModel", "isFit", "(II)Z"⟩ prog_7_method_37_code 7 (some FieldType.boolean) ∈ GW := GW_t 728 (by decide +kernel) (by decide +kernel)
theorem g729 : Cond.methodLink "AnswerKeeperModel" 187 ⟨"AnswerKeeperModel", "costWith", "(JII)I"⟩ ∈ GW := GW_t 729 (by decide +kernel) (by decide +kernel)
theorem g731 : Cond.instanceMethod ⟨"AnswerKeeperModel", "costWith", "(JII)I"⟩ ∈ GW := GW_t 731 (by decide +kernel) (by decide +kernel)
theorem g732 : Cond.code ⟨"AnswerKeeperModel", "costWith", "(JII)I"⟩ prog_7_method_39_code 10 (some FieldType.int) ∈ GW := GW_t 732 (by decide +kernel) (by decide +kernel)
theorem g733 : Cond.constantLong "AnswerKeeperModel" 178 (-1) ∈ GW := GW_t 733 (by decide +kernel) (by decide +kernel)
theorem g734 : Cond.methodLink "AnswerKeeperModel" 180 ⟨"AnswerKeeperModel", "questionOf", "(II)I"⟩ ∈ GW := GW_t 734 (by decide +kernel) (by decide +kernel)
theorem g736 : Cond.instanceMethod ⟨"AnswerKeeperModel", "questionOf", "(II)I"⟩ ∈ GW := GW_t 736 (by decide +kernel) (by decide +kernel)
theorem g737 : Cond.code ⟨"AnswerKeeperModel", "questionOf", "(II)I"⟩ prog_7_method_38_code 4 (some FieldType.int) ∈ GW := GW_t 737 (by decide +kernel) (by decide +kernel)
theorem g738 : Cond.methodLink "AnswerKeeperLaw" 90 ⟨"AnswerKeeperModel", "found", "(III)I"⟩ ∈ GW := GW_t 738 (by decide +kernel) (by decide +kernel)
theorem g739 : Cond.instanceMethod ⟨"AnswerKeeperModel", "found", "(III)I"⟩ ∈ GW := GW_t 739 (by decide +kernel) (by decide +kernel)
theorem g740 : Cond.selects "AnswerKeeperModel" ⟨"AnswerKeeperModel", "found", "(III)I"⟩ ⟨"AnswerKeeperModel", "found", "(III)I"⟩ ∈ GW := GW_t 740 (by decide +kernel) (by decide +kernel)
theorem g741 : Cond.code ⟨"AnswerKeeperModel", "found", "(III)I"⟩ prog_7_method_42_code 9 (some FieldType.int) ∈ GW := GW_t 741 (by decide +kernel) (by decide +kernel)
theorem g742 : Cond.constantLong "AnswerKeeperModel" 194 2 ∈ GW := GW_t 742 (by decide +kernel) (by decide +kernel)
theorem g743 : Cond.methodLink "AnswerKeeperLaw" 98 ⟨"AnswerKeeperModel", "asked", "(II)I"⟩ ∈ GW := GW_t 743 (by decide +kernel) (by decide +kernel)
theorem g744 : Cond.instanceMethod ⟨"AnswerKeeperModel", "asked", "(II)I"⟩ ∈ GW := GW_t 744 (by decide +kernel) (by decide +kernel)
theorem g745 : Cond.selects "AnswerKeeperModel" ⟨"AnswerKeeperModel", "asked", "(II)I"⟩ ⟨"AnswerKeeperModel", "asked", "(II)I"⟩ ∈ GW := GW_t 745 (by decide +kernel) (by decide +kernel)
theorem g746 : Cond.code ⟨"AnswerKeeperModel", "asked", "(II)I"⟩ prog_7_method_46_code 3 (some FieldType.int) ∈ GW := GW_t 746 (by decide +kernel) (by decide +kernel)
theorem g747 : Cond.methodLink "AnswerKeeperModel" 200 ⟨"AnswerKeeperModel", "findHeaps", "()V"⟩ ∈ GW := GW_t 747 (by decide +kernel) (by decide +kernel)
theorem g749 : Cond.instanceMethod ⟨"AnswerKeeperModel", "findHeaps", "()V"⟩ ∈ GW := GW_t 749 (by decide +kernel) (by decide +kernel)
theorem g750 : Cond.code ⟨"AnswerKeeperModel", "findHeaps", "()V"⟩ prog_7_method_43_code 4 none ∈ GW := GW_t 750 (by decide +kernel) (by decide +kernel)
theorem g751 : Cond.methodLink "AnswerKeeperModel" 196 ⟨"AnswerKeeperModel", "findsWith", "(JI)I"⟩ ∈ GW := GW_t 751 (by decide +kernel) (by decide +kernel)
theorem g753 : Cond.instanceMethod ⟨"AnswerKeeperModel", "findsWith", "(JI)I"⟩ ∈ GW := GW_t 753 (by decide +kernel) (by decide +kernel)
theorem g754 : Cond.code ⟨"AnswerKeeperModel", "findsWith", "(JI)I"⟩ prog_7_method_40_code 6 (some FieldType.int) ∈ GW := GW_t 754 (by decide +kernel) (by decide +kernel)
theorem g755 : Cond.methodLink "AnswerKeeperModel" 203 ⟨"AnswerKeeperModel", "heapOf", "(I)I"⟩ ∈ GW := GW_t 755 (by decide +kernel) (by decide +kernel)
theorem g757 : Cond.instanceMethod ⟨"AnswerKeeperModel", "heapOf", "(I)I"⟩ ∈ GW := GW_t 757 (by decide +kernel) (by decide +kernel)
theorem g758 : Cond.code ⟨"AnswerKeeperModel", "heapOf", "(I)I"⟩ prog_7_method_44_code 4 (some FieldType.int) ∈ GW := GW_t 758 (by decide +kernel) (by decide +kernel)
theorem g759 : Cond.methodLink "AnswerKeeperModel" 206 ⟨"AnswerKeeperModel", "helpOf", "(I)I"⟩ ∈ GW := GW_t 759 (by decide +kernel) (by decide +kernel)
theorem g761 : Cond.instanceMethod ⟨"AnswerKeeperModel", "helpOf", "(I)I"⟩ ∈ GW := GW_t 761 (by decide +kernel) (by decide +kernel)
theorem g762 : Cond.code ⟨"AnswerKeeperModel", "helpOf", "(I)I"⟩ prog_7_method_45_code 3 (some FieldType.int) ∈ GW := GW_t 762 (by decide +kernel) (by decide +kernel)
theorem g763 : Cond.methodLink "AnswerKeeperLaw" 76 ⟨"AnswerKeeperModel", "count", "(I)I"⟩ ∈ GW := GW_t 763 (by decide +kernel) (by decide +kernel)
theorem g764 : Cond.instanceMethod ⟨"AnswerKeeperModel", "count", "(I)I"⟩ ∈ GW := GW_t 764 (by decide +kernel) (by decide +kernel)
theorem g765 : Cond.selects "AnswerKeeperModel" ⟨"AnswerKeeperModel", "count", "(I)I"⟩ ⟨"AnswerKeeperModel", "count", "(I)I"⟩ ∈ GW := GW_t 765 (by decide +kernel) (by decide +kernel)
theorem g766 : Cond.code ⟨"AnswerKeeperModel", "count", "(I)I"⟩ prog_7_method_48_code 5 (some FieldType.int) ∈ GW := GW_t 766 (by decide +kernel) (by decide +kernel)
theorem g767 : Cond.constantLong "AnswerKeeperModel" 209 8 ∈ GW := GW_t 767 (by decide +kernel) (by decide +kernel)
theorem g768 : Cond.methodLink "AnswerKeeperModel" 211 ⟨"AnswerKeeperModel", "counted", "(II)I"⟩ ∈ GW := GW_t 768 (by decide +kernel) (by decide +kernel)
theorem g770 : Cond.instanceMethod ⟨"AnswerKeeperModel", "counted", "(II)I"⟩ ∈ GW := GW_t 770 (by decide +kernel) (by decide +kernel)
theorem g771 : Cond.code ⟨"AnswerKeeperModel", "counted", "(II)I"⟩ prog_7_method_47_code 4 (some FieldType.int) ∈ GW := GW_t 771 (by decide +kernel) (by decide +kernel)
theorem g772 : Cond.constantLong "AnswerKeeperLaw" 27 4294967295 ∈ GW := GW_t 772 (by decide +kernel) (by decide +kernel)
theorem p0 : Cond.selects "AnswerKeeper" ⟨"AnswerKeeper", "settle", "()V"⟩ ⟨"AnswerKeeper", "settle", "()V"⟩ ∈ GW := GW_p 0 (by decide +kernel) (by decide +kernel)
theorem p1 : Cond.selects "AnswerKeeper" ⟨"AnswerKeeper", "answerAt", "(I)LAnswerKeeper$Answer;"⟩ ⟨"AnswerKeeper", "answerAt", "(I)LAnswerKeeper$Answer;"⟩ ∈ GW := GW_p 1 (by decide +kernel) (by decide +kernel)
theorem p2 : Cond.selects "AnswerKeeper" ⟨"AnswerKeeper", "settlePlain", "(LAnswerKeeper$Answer;)V"⟩ ⟨"AnswerKeeper", "settlePlain", "(LAnswerKeeper$Answer;)V"⟩ ∈ GW := GW_p 2 (by decide +kernel) (by decide +kernel)
theorem p3 : Cond.selects "AnswerKeeper" ⟨"AnswerKeeper", "settleUnder", "()V"⟩ ⟨"AnswerKeeper", "settleUnder", "()V"⟩ ∈ GW := GW_p 3 (by decide +kernel) (by decide +kernel)
theorem p4 : Cond.selects "AnswerKeeper" ⟨"AnswerKeeper", "widenUnder", "(LAnswerKeeper$Answer;)V"⟩ ⟨"AnswerKeeper", "widenUnder", "(LAnswerKeeper$Answer;)V"⟩ ∈ GW := GW_p 4 (by decide +kernel) (by decide +kernel)
theorem p5 : Cond.selects "AnswerKeeper" ⟨"AnswerKeeper", "endOf", "(I)LAnswerKeeper$Answer;"⟩ ⟨"AnswerKeeper", "endOf", "(I)LAnswerKeeper$Answer;"⟩ ∈ GW := GW_p 5 (by decide +kernel) (by decide +kernel)
theorem p6 : Cond.selects "AnswerKeeper" ⟨"AnswerKeeper", "settleJoined", "(LAnswerKeeper$Answer;)V"⟩ ⟨"AnswerKeeper", "settleJoined", "(LAnswerKeeper$Answer;)V"⟩ ∈ GW := GW_p 6 (by decide +kernel) (by decide +kernel)
theorem p7 : Cond.selects "AnswerKeeper" ⟨"AnswerKeeper", "askAt", "(I)LAnswerKeeper$Ask;"⟩ ⟨"AnswerKeeper", "askAt", "(I)LAnswerKeeper$Ask;"⟩ ∈ GW := GW_p 7 (by decide +kernel) (by decide +kernel)
theorem p8 : Cond.selects "AnswerKeeper" ⟨"AnswerKeeper", "keep", "(LAnswerKeeper$Answer;)V"⟩ ⟨"AnswerKeeper", "keep", "(LAnswerKeeper$Answer;)V"⟩ ∈ GW := GW_p 8 (by decide +kernel) (by decide +kernel)
theorem p9 : Cond.selects "AnswerKeeper" ⟨"AnswerKeeper", "isAnswer", "(I)Z"⟩ ⟨"AnswerKeeper", "isAnswer", "(I)Z"⟩ ∈ GW := GW_p 9 (by decide +kernel) (by decide +kernel)
theorem p10 : Cond.selects "AnswerKeeper" ⟨"AnswerKeeper", "areAllPlain", "(I)Z"⟩ ⟨"AnswerKeeper", "areAllPlain", "(I)Z"⟩ ∈ GW := GW_p 10 (by decide +kernel) (by decide +kernel)
theorem p11 : Cond.selects "AnswerKeeper" ⟨"AnswerKeeper", "leadOn", "(II)V"⟩ ⟨"AnswerKeeper", "leadOn", "(II)V"⟩ ∈ GW := GW_p 11 (by decide +kernel) (by decide +kernel)
theorem p12 : Cond.selects "AnswerKeeper" ⟨"AnswerKeeper", "partNow", "(LAnswerKeeper$Answer;I)I"⟩ ⟨"AnswerKeeper", "partNow", "(LAnswerKeeper$Answer;I)I"⟩ ∈ GW := GW_p 12 (by decide +kernel) (by decide +kernel)
theorem p13 : Cond.selects "AnswerKeeper" ⟨"AnswerKeeper", "kindCount", "(I)I"⟩ ⟨"AnswerKeeper", "kindCount", "(I)I"⟩ ∈ GW := GW_p 13 (by decide +kernel) (by decide +kernel)
theorem p14 : Cond.selects "AnswerKeeper" ⟨"AnswerKeeper", "doubtedCount", "()I"⟩ ⟨"AnswerKeeper", "doubtedCount", "()I"⟩ ∈ GW := GW_p 14 (by decide +kernel) (by decide +kernel)
theorem p15 : Cond.selects "AnswerKeeper" ⟨"AnswerKeeper", "quarrelCount", "()I"⟩ ⟨"AnswerKeeper", "quarrelCount", "()I"⟩ ∈ GW := GW_p 15 (by decide +kernel) (by decide +kernel)
theorem p16 : Cond.selects "AnswerKeeper" ⟨"AnswerKeeper", "areQuarrelling", "(LAnswerKeeper$Answer;LAnswerKeeper$Answer;)Z"⟩ ⟨"AnswerKeeper", "areQuarrelling", "(LAnswerKeeper$Answer;LAnswerKeeper$Answer;)Z"⟩ ∈ GW := GW_p 16 (by decide +kernel) (by decide +kernel)
theorem p17 : Cond.selects "AnswerKeeper" ⟨"AnswerKeeper", "asksInVain", "()I"⟩ ⟨"AnswerKeeper", "asksInVain", "()I"⟩ ∈ GW := GW_p 17 (by decide +kernel) (by decide +kernel)
theorem p18 : Cond.selects "AnswerKeeper" ⟨"AnswerKeeper", "findsSome", "(JLAnswerKeeper$Ask;)Z"⟩ ⟨"AnswerKeeper", "findsSome", "(JLAnswerKeeper$Ask;)Z"⟩ ∈ GW := GW_p 18 (by decide +kernel) (by decide +kernel)
theorem p19 : Cond.selects "AnswerKeeper" ⟨"AnswerKeeper", "isFound", "(JLAnswerKeeper$Ask;LAnswerKeeper$Answer;)Z"⟩ ⟨"AnswerKeeper", "isFound", "(JLAnswerKeeper$Ask;LAnswerKeeper$Answer;)Z"⟩ ∈ GW := GW_p 19 (by decide +kernel) (by decide +kernel)
theorem p20 : Cond.selects "AnswerKeeper" ⟨"AnswerKeeper", "heapCount", "(I)I"⟩ ⟨"AnswerKeeper", "heapCount", "(I)I"⟩ ∈ GW := GW_p 20 (by decide +kernel) (by decide +kernel)
theorem p21 : Cond.selects "AnswerKeeper" ⟨"AnswerKeeper", "heapFrom", "(II)I"⟩ ⟨"AnswerKeeper", "heapFrom", "(II)I"⟩ ∈ GW := GW_p 21 (by decide +kernel) (by decide +kernel)
theorem p22 : Cond.selects "AnswerKeeper" ⟨"AnswerKeeper", "isNearOne", "(LAnswerKeeper$Ask;I)Z"⟩ ⟨"AnswerKeeper", "isNearOne", "(LAnswerKeeper$Ask;I)Z"⟩ ∈ GW := GW_p 22 (by decide +kernel) (by decide +kernel)
theorem p23 : Cond.selects "AnswerKeeper" ⟨"AnswerKeeper", "quarrelPart", "(III)I"⟩ ⟨"AnswerKeeper", "quarrelPart", "(III)I"⟩ ∈ GW := GW_p 23 (by decide +kernel) (by decide +kernel)
theorem p24 : Cond.selects "AnswerKeeper" ⟨"AnswerKeeper", "foundAt", "(LAnswerKeeper$Ask;I)LAnswerKeeper$Answer;"⟩ ⟨"AnswerKeeper", "foundAt", "(LAnswerKeeper$Ask;I)LAnswerKeeper$Answer;"⟩ ∈ GW := GW_p 24 (by decide +kernel) (by decide +kernel)
theorem p25 : Cond.selects "AnswerKeeper" ⟨"AnswerKeeper", "betterCount", "(LAnswerKeeper$Ask;LAnswerKeeper$Answer;)I"⟩ ⟨"AnswerKeeper", "betterCount", "(LAnswerKeeper$Ask;LAnswerKeeper$Answer;)I"⟩ ∈ GW := GW_p 25 (by decide +kernel) (by decide +kernel)
theorem p26 : Cond.selects "AnswerKeeper" ⟨"AnswerKeeper", "heapOf", "(II)I"⟩ ⟨"AnswerKeeper", "heapOf", "(II)I"⟩ ∈ GW := GW_p 26 (by decide +kernel) (by decide +kernel)
theorem p27 : Cond.selects "AnswerKeeper" ⟨"AnswerKeeper", "helpFor", "(LAnswerKeeper$Ask;)I"⟩ ⟨"AnswerKeeper", "helpFor", "(LAnswerKeeper$Ask;)I"⟩ ∈ GW := GW_p 27 (by decide +kernel) (by decide +kernel)
theorem p28 : Cond.selects "AnswerKeeper" ⟨"AnswerKeeper", "foundCount", "(LAnswerKeeper$Ask;)I"⟩ ⟨"AnswerKeeper", "foundCount", "(LAnswerKeeper$Ask;)I"⟩ ∈ GW := GW_p 28 (by decide +kernel) (by decide +kernel)
theorem p29 : Cond.selects "AnswerKeeperModel" ⟨"AnswerKeeperModel", "fresh", "(I)I"⟩ ⟨"AnswerKeeperModel", "fresh", "(I)I"⟩ ∈ GW := GW_p 29 (by decide +kernel) (by decide +kernel)
theorem p30 : Cond.selects "AnswerKeeperModel" ⟨"AnswerKeeperModel", "is", "(I)Z"⟩ ⟨"AnswerKeeperModel", "is", "(I)Z"⟩ ∈ GW := GW_p 30 (by decide +kernel) (by decide +kernel)
theorem p31 : Cond.selects "AnswerKeeperModel" ⟨"AnswerKeeperModel", "isPlain", "(I)Z"⟩ ⟨"AnswerKeeperModel", "isPlain", "(I)Z"⟩ ∈ GW := GW_p 31 (by decide +kernel) (by decide +kernel)
theorem p32 : Cond.selects "AnswerKeeperModel" ⟨"AnswerKeeperModel", "work", "()V"⟩ ⟨"AnswerKeeperModel", "work", "()V"⟩ ∈ GW := GW_p 32 (by decide +kernel) (by decide +kernel)
theorem p33 : Cond.selects "AnswerKeeperModel" ⟨"AnswerKeeperModel", "workPlain", "(I)V"⟩ ⟨"AnswerKeeperModel", "workPlain", "(I)V"⟩ ∈ GW := GW_p 33 (by decide +kernel) (by decide +kernel)
theorem p34 : Cond.selects "AnswerKeeperModel" ⟨"AnswerKeeperModel", "workJoined", "(I)V"⟩ ⟨"AnswerKeeperModel", "workJoined", "(I)V"⟩ ∈ GW := GW_p 34 (by decide +kernel) (by decide +kernel)
theorem p35 : Cond.selects "AnswerKeeperModel" ⟨"AnswerKeeperModel", "endOf", "(I)I"⟩ ⟨"AnswerKeeperModel", "endOf", "(I)I"⟩ ∈ GW := GW_p 35 (by decide +kernel) (by decide +kernel)
theorem p36 : Cond.selects "AnswerKeeperModel" ⟨"AnswerKeeperModel", "hasPart", "(II)Z"⟩ ⟨"AnswerKeeperModel", "hasPart", "(II)Z"⟩ ∈ GW := GW_p 36 (by decide +kernel) (by decide +kernel)
theorem p37 : Cond.selects "AnswerKeeperModel" ⟨"AnswerKeeperModel", "isWithin", "(II)Z"⟩ ⟨"AnswerKeeperModel", "isWithin", "(II)Z"⟩ ∈ GW := GW_p 37 (by decide +kernel) (by decide +kernel)
theorem p38 : Cond.selects "AnswerKeeperModel" ⟨"AnswerKeeperModel", "partMany", "(I)I"⟩ ⟨"AnswerKeeperModel", "partMany", "(I)I"⟩ ∈ GW := GW_p 38 (by decide +kernel) (by decide +kernel)
theorem p39 : Cond.selects "AnswerKeeperModel" ⟨"AnswerKeeperModel", "quarrels", "(II)Z"⟩ ⟨"AnswerKeeperModel", "quarrels", "(II)Z"⟩ ∈ GW := GW_p 39 (by decide +kernel) (by decide +kernel)
theorem p40 : Cond.selects "AnswerKeeperModel" ⟨"AnswerKeeperModel", "far", "(JJ)I"⟩ ⟨"AnswerKeeperModel", "far", "(JJ)I"⟩ ∈ GW := GW_p 40 (by decide +kernel) (by decide +kernel)
theorem p41 : Cond.selects "AnswerKeeperModel" ⟨"AnswerKeeperModel", "folded", "(J)J"⟩ ⟨"AnswerKeeperModel", "folded", "(J)J"⟩ ∈ GW := GW_p 41 (by decide +kernel) (by decide +kernel)
theorem p42 : Cond.selects "AnswerKeeperModel" ⟨"AnswerKeeperModel", "isAsk", "(I)Z"⟩ ⟨"AnswerKeeperModel", "isAsk", "(I)Z"⟩ ∈ GW := GW_p 42 (by decide +kernel) (by decide +kernel)
theorem p43 : Cond.selects "AnswerKeeperModel" ⟨"AnswerKeeperModel", "isFit", "(II)Z"⟩ ⟨"AnswerKeeperModel", "isFit", "(II)Z"⟩ ∈ GW := GW_p 43 (by decide +kernel) (by decide +kernel)
theorem p44 : Cond.selects "AnswerKeeperModel" ⟨"AnswerKeeperModel", "costWith", "(JII)I"⟩ ⟨"AnswerKeeperModel", "costWith", "(JII)I"⟩ ∈ GW := GW_p 44 (by decide +kernel) (by decide +kernel)
theorem p45 : Cond.selects "AnswerKeeperModel" ⟨"AnswerKeeperModel", "questionOf", "(II)I"⟩ ⟨"AnswerKeeperModel", "questionOf", "(II)I"⟩ ∈ GW := GW_p 45 (by decide +kernel) (by decide +kernel)
theorem p46 : Cond.selects "AnswerKeeperModel" ⟨"AnswerKeeperModel", "findHeaps", "()V"⟩ ⟨"AnswerKeeperModel", "findHeaps", "()V"⟩ ∈ GW := GW_p 46 (by decide +kernel) (by decide +kernel)
theorem p47 : Cond.selects "AnswerKeeperModel" ⟨"AnswerKeeperModel", "findsWith", "(JI)I"⟩ ⟨"AnswerKeeperModel", "findsWith", "(JI)I"⟩ ∈ GW := GW_p 47 (by decide +kernel) (by decide +kernel)
theorem p48 : Cond.selects "AnswerKeeperModel" ⟨"AnswerKeeperModel", "heapOf", "(I)I"⟩ ⟨"AnswerKeeperModel", "heapOf", "(I)I"⟩ ∈ GW := GW_p 48 (by decide +kernel) (by decide +kernel)
theorem p49 : Cond.selects "AnswerKeeperModel" ⟨"AnswerKeeperModel", "helpOf", "(I)I"⟩ ⟨"AnswerKeeperModel", "helpOf", "(I)I"⟩ ∈ GW := GW_p 49 (by decide +kernel) (by decide +kernel)
theorem p50 : Cond.selects "AnswerKeeperModel" ⟨"AnswerKeeperModel", "counted", "(II)I"⟩ ⟨"AnswerKeeperModel", "counted", "(II)I"⟩ ∈ GW := GW_p 50 (by decide +kernel) (by decide +kernel)
theorem inX0 : ∀ w ∈ u_ws RX0 TX0 13, w ∈ lw_tbl ∧ goodWord w = true := by decide +kernel
theorem inG0 : ∀ w ∈ u_ws RX0 TX0 13, w ∈ GW := fun w h => GW_of (inX0 w h).1 (inX0 w h).2
theorem inX1 : ∀ w ∈ u_ws RX1 TX1 3, w ∈ lw_tbl ∧ goodWord w = true := by decide +kernel
theorem inG1 : ∀ w ∈ u_ws RX1 TX1 3, w ∈ GW := fun w h => GW_of (inX1 w h).1 (inX1 w h).2
theorem inX2 : ∀ w ∈ u_ws RX2 TX2 1, w ∈ lw_tbl ∧ goodWord w = true := by decide +kernel
theorem inG2 : ∀ w ∈ u_ws RX2 TX2 1, w ∈ GW := fun w h => GW_of (inX2 w h).1 (inX2 w h).2
theorem inX3 : ∀ w ∈ u_ws RX3 TX3 3, w ∈ lw_tbl ∧ goodWord w = true := by decide +kernel
theorem inG3 : ∀ w ∈ u_ws RX3 TX3 3, w ∈ GW := fun w h => GW_of (inX3 w h).1 (inX3 w h).2
theorem inX4 : ∀ w ∈ u_ws RX4 TX4 8, w ∈ lw_tbl ∧ goodWord w = true := by decide +kernel
theorem inG4 : ∀ w ∈ u_ws RX4 TX4 8, w ∈ GW := fun w h => GW_of (inX4 w h).1 (inX4 w h).2
theorem inX5 : ∀ w ∈ u_ws RX5 TX5 25, w ∈ lw_tbl ∧ goodWord w = true := by decide +kernel
theorem inG5 : ∀ w ∈ u_ws RX5 TX5 25, w ∈ GW := fun w h => GW_of (inX5 w h).1 (inX5 w h).2
end
section
/-! the world of a run: kinds of cells c (0 .. 44), the i-th of a kind at the address ad c i; what they hold: ints I c i slot, longs J c i slot -/
abbrev k_I : Type := Nat → Nat → Nat → Int32
abbrev k_J : Type := Nat → Nat → Nat → Int64
/-- what stays in a run: the classes' numbers and slots, the array classes, the least new address, the address of ALL_VALUES -/
abbrev k_G : Type := va_G × (Nat → ClassId) × Nat × Nat
abbrev k_A (G : k_G) : Nat → Prop := fun q => G.2.2.1 ≤ q
def k_n (nA nK : Nat) (c : Nat) : Nat := match c with
  | 0 => 1 | 1 => 1 | 2 => 1 | 3 => 1 | 4 => 1 | 5 => 1 | 6 => 1 | 7 => 1
  | 8 => nA | 9 => nA | 10 => nA | 11 => nK | 12 => nK
  | 13 => 1 | 20 => 1 | 21 => 1 | 22 => 1 | 27 => 1 | 28 => 1 | 29 => 1 | 30 => 1 | 31 => 1 | 32 => 1 | 33 => 1 | 34 => 1 | 35 => 1
  | 37 => 1 | 38 => 1 | 39 => 1 | 40 => 1 | 41 => 1 | 42 => 1 | 43 => 1 | 44 => 1
  | _ => 0
def k_ar (n : Nat) (cA : ClassId) (f : Nat → Int32) : va_E := .inl (cA, n, .inl f)
def k_al (n : Nat) (cA : ClassId) (f : Nat → Int64) : va_E := .inl (cA, n, .inr (.inl f))
def k_ent (G : k_G) (ad : Nat → Nat → Nat) (c i : Nat) (f : Nat → Int32) (g : Nat → Int64) : va_E := match c with
  | 0 => .inr (4, [.ref (ad 1 0), .ref (ad 3 0), .ref (ad 6 0), .ref (ad 7 0), .int (f 4), .int (f 5), .int (f 6), .int (f 7)])
  | 1 => .inr (2, [.ref (ad 2 0)])
  | 2 => k_ar 40 (G.2.1 0) f
  | 3 => .inr (3, [.ref (ad 4 0), .ref (ad 5 0), .int (f 2)])
  | 4 => k_ar 10 (G.2.1 0) f
  | 5 => k_ar 10 (G.2.1 0) f
  | 6 => .inl (G.2.1 3, 24, .inr (.inr (.inr (.inr (fun j => if f j = 0 then none else some (ad 8 j))))))
  | 7 => .inl (G.2.1 4, 30, .inr (.inr (.inr (.inr (fun j => if f j = 0 then none else some (ad 11 j))))))
  | 8 => .inr (0, [.int (f 0), .int (f 1), .int (f 2), .ref (ad 9 i), .ref (ad 10 i), .long (g 5), .int (f 6), .int (f 7), .int (f 8), .int (f 9), .long (g 10), .int (f 11), .int (f 12)])
  | 9 => k_ar 3 (G.2.1 0) f
  | 10 => k_ar 4 (G.2.1 0) f
  | 11 => .inr (1, [.long (g 0), .ref (ad 12 i), .long (g 2)])
  | 12 => k_ar 3 (G.2.1 0) f
  | 13 => .inr (5, [.ref (ad 20 0), .ref (ad 21 0), .ref (ad 22 0), .int (f 3), .int (f 4), .int (f 5), .int (f 6), .ref (ad 27 0), .ref (ad 28 0), .ref (ad 29 0), .ref (ad 30 0), .ref (ad 31 0), .ref (ad 32 0), .ref (ad 33 0), .ref (ad 34 0), .ref (ad 35 0), .int (f 16), .ref (ad 37 0), .ref (ad 38 0), .ref (ad 39 0), .ref (ad 40 0), .ref (ad 41 0), .ref (ad 42 0), .ref (ad 43 0), .ref (ad 44 0)])
  | 20 => k_ar 40 (G.2.1 0) f
  | 21 => k_ar 10 (G.2.1 0) f
  | 22 => k_ar 10 (G.2.1 0) f
  | 27 => k_ar 24 (G.2.1 0) f
  | 28 => k_ar 24 (G.2.1 0) f
  | 29 => k_al 24 (G.2.1 1) g
  | 30 => k_ar 24 (G.2.1 0) f
  | 31 => k_ar 72 (G.2.1 0) f
  | 32 => k_ar 24 (G.2.1 0) f
  | 33 => k_ar 24 (G.2.1 0) f
  | 34 => k_ar 24 (G.2.1 0) f
  | 35 => k_ar 96 (G.2.1 0) f
  | 37 => k_al 30 (G.2.1 1) g
  | 38 => k_ar 90 (G.2.1 0) f
  | 39 => k_ar 24 (G.2.1 2) f
  | 40 => k_al 24 (G.2.1 1) g
  | 41 => k_ar 72 (G.2.1 0) f
  | 42 => k_ar 24 (G.2.1 0) f
  | 43 => k_ar 24 (G.2.1 2) f
  | _ => k_ar 30 (G.2.1 0) f
def k_tys (G : k_G) : List (ClassId × FieldType) := [(G.2.1 0, .int), (G.2.1 1, .long), (G.2.1 2, .boolean), (G.2.1 3, .object "AnswerKeeper$Answer"), (G.2.1 4, .object "AnswerKeeper$Ask")]
def k_allv (j : Nat) : Int32 := if j = 0 then 255 else if j = 1 then 1023 else 15
def k_up {α : Type} (I : Nat → Nat → α) (c i : Nat) (f : α) : Nat → Nat → α := fun c' i' => if c' = c ∧ i' = i then f else I c' i'
theorem k_up_id {α : Type} (I : Nat → Nat → α) (c i : Nat) : k_up I c i (I c i) = I := by
  funext c' i'
  unfold k_up
  split
  · next h => rw [h.1, h.2]
  · rfl
def Wd (G : k_G) (ad : Nat → Nat → Nat) (nA nK : Nat) (I : k_I) (J : k_J) (H : Heap) : Prop :=
  (∀ c i, i < k_n nA nK c → va_at G.1 vwCl (ad c i, k_ent G ad c i (I c i) (J c i)) H ∧ k_A G (ad c i)) ∧
  (∀ c i c' i', i < k_n nA nK c → i' < k_n nA nK c' → ad c i = ad c' i' → c = c' ∧ i = i')
theorem Wd.wr {G : k_G} {ad : Nat → Nat → Nat} {nA nK : Nat} {I : k_I} {J : k_J} {H H1 : Heap} (h : Wd G ad nA nK I J H) (c i : Nat) (hi : i < k_n nA nK c) {f : Nat → Int32} {g : Nat → Int64} (e : va_at G.1 vwCl (ad c i, k_ent G ad c i f g) H1) (oq : ∀ q, q ≠ ad c i → H1[q]? = H[q]?) : Wd G ad nA nK (k_up I c i f) (k_up J c i g) H1 := by
  refine ⟨fun c' i' hi' => ?_, h.2⟩
  by_cases hc : c' = c ∧ i' = i
  · obtain ⟨rfl, rfl⟩ := hc
    simp only [k_up, and_self, if_true]
    exact ⟨e, (h.1 _ _ hi).2⟩
  · have hne : ad c' i' ≠ ad c i := fun q => hc (h.2 _ _ _ _ hi' hi q)
    simp only [k_up, hc, if_false]
    exact ⟨(h.1 _ _ hi').1.kept (oq _ hne), (h.1 _ _ hi').2⟩
theorem Wd.kept {G : k_G} {ad : Nat → Nat → Nat} {nA nK : Nat} {I : k_I} {J : k_J} {H H1 : Heap} (h : Wd G ad nA nK I J H) (hq : ∀ c i, i < k_n nA nK c → H1[ad c i]? = H[ad c i]?) : Wd G ad nA nK I J H1 :=
  ⟨fun c i hi => ⟨(h.1 c i hi).1.kept (hq c i hi), (h.1 c i hi).2⟩, h.2⟩
theorem Wd.lt {G : k_G} {ad : Nat → Nat → Nat} {nA nK : Nat} {I : k_I} {J : k_J} {H : Heap} (h : Wd G ad nA nK I J H) (c i : Nat) (hi : i < k_n nA nK c) : ad c i < H.size := (h.1 c i hi).1.lt
theorem Wd.P {G : k_G} {ad : Nat → Nat → Nat} {nA nK : Nat} {I : k_I} {J : k_J} {H : Heap} (h : Wd G ad nA nK I J H) (c i : Nat) (hi : i < k_n nA nK c) : va_P G.1 vwCl [(ad c i, k_ent G ad c i (I c i) (J c i))] H := by
  intro k q hk
  match k, hk with
  | 0, hk => cases hk; exact (h.1 c i hi).1
/-! what a method may rely on: the classes, the static array, the nest links -/
abbrev k_N0 : Cond := .methodLinkNest "AnswerKeeper" 18 ⟨"AnswerKeeper$Things", "<init>", "()V"⟩ "AnswerKeeper"
abbrev k_N1 : Cond := .methodLinkNest "AnswerKeeper$Things" 22 ⟨"AnswerKeeper", "bit", "(I)I"⟩ "AnswerKeeper"
abbrev k_N2 : Cond := .methodLinkNest "AnswerKeeper$Answer" 71 ⟨"AnswerKeeper", "allValues", "(I)I"⟩ "AnswerKeeper"
abbrev k_N3 : Cond := .methodLinkNest "AnswerKeeper$Answer" 62 ⟨"AnswerKeeper", "bit", "(I)I"⟩ "AnswerKeeper"
def k_Wk (G : k_G) (s : State) : Prop := va_K G.1 vwCl (k_tys G) s ∧ va_Z "AnswerKeeper" "ALL_VALUES" "[I" (.ref G.2.2.2) (k_A G) s s.heap ∧ va_T .int G.2.2.2 3 (fun j => .int (k_allv j)) (k_A G) s s.heap ∧ (va_Nw k_N0 s ∧ va_Nw k_N1 s ∧ va_Nw k_N2 s ∧ va_Nw k_N3 s) ∧ G.2.2.1 ≤ s.heap.size ∧ (va_AO "AnswerKeeper$Answer" s ∧ va_AO "AnswerKeeper$Ask" s)
theorem k_Wk.calling {G : k_G} {U : State} (a : Array Value) (g : JFrame) (mk : MethodId) (h : k_Wk G U) : k_Wk G (U.calling g mk a) := by
  obtain ⟨h1, h2, h3, ⟨n0, n1, n2, n3⟩, h5, o1, o2⟩ := h
  have al : U.vm.Alike (U.calling g mk a).vm := Vm.Alike.refl U.vm
  exact ⟨va_K.moved (u := U) al h1, va_Z.moved (u := U) al h2, va_T.moved (u := U) al h3, ⟨va_Nw.same rfl (u := U) rfl n0, va_Nw.same rfl (u := U) rfl n1, va_Nw.same rfl (u := U) rfl n2, va_Nw.same rfl (u := U) rfl n3⟩, h5, va_AO.moved (u := U) al o1, va_AO.moved (u := U) al o2⟩
theorem k_Wk.go {G : k_G} {s U : State} {H : Heap} {locs : List Loc} (h : k_Wk G s) (hS : va_S (k_A G) s.heap H locs) (hU : U.heap = H) (hW : s.WarmedH U.vm) : k_Wk G U := by
  obtain ⟨h1, h2, h3, ⟨n0, n1, n2, n3⟩, h5, o1, o2⟩ := h
  refine ⟨va_K.moved hW.alike h1, ?_, ?_, ⟨va_Nw.warmM hW n0, va_Nw.warmM hW n1, va_Nw.warmM hW n2, va_Nw.warmM hW n3⟩, by rw [hU]; exact Nat.le_trans h5 hS.1, va_AO.moved hW.alike o1, va_AO.moved hW.alike o2⟩
  · rw [hU]
    exact (h2.kept hS.2.1).moved hW.alike
  · rw [hU]
    exact (h3.kept hS.2.1).moved hW.alike
/-! contracts: from the heap's picture P the method answers v and leaves the picture B; below G's least address nothing changes -/
def k_Q (G : k_G) (v : Option Value) (B : Heap → Prop) : Array Value → State → Outcome → State → Prop := fun _ st oc t => oc = .returned v ∧ B t.heap ∧ va_F (k_A G) st t
abbrev k_Met (l : Launch) (y : MethodName) (cc : ByteArray) (maxL : Nat) (ret : Option FieldType) (rm : Room) (G : k_G) (av : List Value) (P : Heap → Prop) (v : Option Value) (B : Heap → Prop) (mc ms : Nat) : Prop :=
  Met l y (Cond.code y cc maxL ret :: GW) rm (va_Pc av (fun U => k_Wk G U ∧ P U.heap)) (k_Q G v B) mc ms (k_A G)
/-- a method's frame: what its instructions may use -/
abbrev k_X (p : Program) (m : MethodId) (c : Code) (cc : ByteArray) (nL : Nat) (s : State) (args : Array Value) (own : String) (G : k_G) : Prop := CallFix p m c cc nL s args GW own ∧ k_Wk G s
theorem k_body {l : Launch} {y : MethodName} {cc : ByteArray} {maxL : Nat} {ret : Option FieldType} {rm : Room} {G : k_G} {av : List Value} {P : Heap → Prop} {v : Option Value} {B : Heap → Prop} {mc ms : Nat} (hy : plainName y.cls = true) (hav : (lg_sl av).length ≤ maxL)
    (body : ∀ (p : Program) (e : Env) (s : State) (m : MethodId) (below : List Frame) (meth : Method) (c : Code) (ls : Array Slot), k_X p m c cc maxL s av.toArray y.cls G → meth.sig.returnType = ret → meth.locks = false → meth.name = y.name → P s.heap → va_S (k_A G) s.heap s.heap [] → lv_has ls maxL (lv_args 0 av) →
      W p l e rm s m av.toArray below meth c s.heap [] 0 0 (MQ below (k_Q G v B) av.toArray s mc ms (k_A G)) (F0 m 0 ls [])) : k_Met l y cc maxL ret rm G av P v B mc ms := by
  refine Met.ofW (cc := cc) (maxL := maxL) (ret := ret) hy rfl ?_
  intro p e s m args below meth c s₁ B hml hv
  obtain ⟨rfl, hWk, hP⟩ := hv
  have hts := atoms_spec (ws := Cond.code y cc maxL ret :: GW) B.pre
  have hown : s.vm.findClass y.cls = some m.cls := findClass_of_methodNamed B.named
  rw [lg_entry_eq]
  exact body p e s m below meth c _ ⟨⟨B.exec, B.bytes, hml, hown, fun w hw => hts w (List.mem_cons_of_mem _ hw)⟩, hWk⟩ B.returns B.notSynchronized (name_of_methodNamed B.named B.method).1 hP va_S.rf (lv_entry av hav)
section KW
variable {p : Program} {l : Launch} {e : Env} {R : Room} {s : State} {m : MethodId} {args : Array Value} {below : List Frame} {meth : Method} {c : Code} {H : Heap} {locs : List Loc} {cells slots : Nat} {Q : State → Prop}
variable {cc : ByteArray} {pc nL : Nat} {ls : Array Slot} {rest st : List Value} {own : String}
variable {G : k_G} {ad : Nat → Nat → Nat} {nA nK : Nat} {I : k_I} {J : k_J}
theorem w_get (X : k_X p m c cc nL s args own G) (hW : Wd G ad nA nK I J H) (c0 i : Nat) (hi : i < k_n nA nK c0) {C : String} {T : u_T} {N ci index : Nat} {fs : List Value} (he : k_ent G ad c0 i (I c0 i) (J c0 i) = .inr (ci, fs)) (hc : vwCl[ci]? = some (C, T, N)) (hin : ∀ w ∈ u_ws C T N, w ∈ GW) (k : Nat) (hk : k < N) (hlink : Cond.fieldLink own index (T k).1 (T k).2.1 (T k).2.2.1 ∈ GW) {v : Value} (hv : fs[k]? = some v) (hdg : decode cc pc = .ok (.getfield index, 3))
    (kk : W p l e R s m args below meth c H locs cells slots Q (F0 m (pc + 3) ls (v :: rest))) : W p l e R s m args below meth c H locs cells slots Q (F0 m pc ls (.ref (ad c0 i) :: rest)) := by
  obtain ⟨⟨hx, hb, hml, hown, hts⟩, hWk⟩ := X
  have hP := hW.P c0 i hi
  rw [he] at hP
  exact va_get (D := G.1) (ci := ci) hx hb hts hin hown hWk.1 hP 0 rfl hc k hk (hts _ hlink) (fun x h => h) hv hdg kk
theorem w_put (X : k_X p m c cc nL s args own G) (hW : Wd G ad nA nK I J H) (hS : va_S (k_A G) s.heap H locs) (c0 i : Nat) (hi : i < k_n nA nK c0) {C : String} {T : u_T} {N ci index : Nat} {fs : List Value} (he : k_ent G ad c0 i (I c0 i) (J c0 i) = .inr (ci, fs)) (hc : vwCl[ci]? = some (C, T, N)) (hin : ∀ w ∈ u_ws C T N, w ∈ GW) (ty0 : Nat → FieldType) (hty : ∀ k, k < N → parseFieldDescriptor (T k).2.2.1 = some (ty0 k)) (hnm : ∀ a, a < N → ∀ b, b < N → a ≠ b → (T a).2.1 ≠ (T b).2.1) (k : Nat) (hk : k < N) (hlink : Cond.fieldLink own index (T k).1 (T k).2.1 (T k).2.2.1 ∈ GW) (hfin : (T k).2.2.2 = false) {v : Value} (hn : narrow (ty0 k) v = v) (hfit : fits (ty0 k) v = true) (hl : k < fs.length) {f' : Nat → Int32} {g' : Nat → Int64} (he' : k_ent G ad c0 i f' g' = .inr (ci, fs.set k v)) (hdg : decode cc pc = .ok (.putfield index, 3))
    (kk : ∀ (H1 : Heap) (locs1 : List Loc), Wd G ad nA nK (k_up I c0 i f') (k_up J c0 i g') H1 → va_S (k_A G) s.heap H1 locs1 → W p l e R s m args below meth c H1 locs1 cells slots Q (F0 m (pc + 3) ls rest)) : W p l e R s m args below meth c H locs cells slots Q (F0 m pc ls (v :: .ref (ad c0 i) :: rest)) := by
  obtain ⟨⟨hx, hb, hml, hown, hts⟩, hWk⟩ := X
  have hK := hWk.1
  have hP := (hW.1 c0 i hi).1
  rw [he] at hP
  have hap := va_apart (own := own) hts hin ty0 hty hnm hK hc
  obtain ⟨r, h1, cell, q1, q2, q3, q4⟩ := hP
  have hr : r = (C, T, N) := Option.some.inj (h1.symm.trans hc)
  subst hr
  obtain ⟨hSl, hfc, kC, hkC, hkind⟩ := hK.1 ci _ hc
  obtain ⟨cf, kf, fi, f, hi2, hsl⟩ := hSl k hk
  have hlay := hts _ (hin _ (u_in_lay hk))
  unfold u_lay at hlay
  rw [if_neg (by rw [hfin]; decide)] at hlay
  have hst := (u_facts hfc hkC (u_lays hts hin hk) hi2).1
  have h6 := u_store hfc hkC hkind hlay hi2 (hty k hk) hn hfit
  refine W.putK hx hb (f := f) ⟨hown, hts _ hlink, ⟨_, _, _, hi2⟩, hst⟩ (by rw [q2]; exact h6) q1 q3 (by rw [hsl]; exact k2_hasslot (q4 k hk)) rfl rfl hdg fun H' e1 e2 e3 => ?_
  rw [hsl] at e1 ⊢
  refine kk H' _ (hW.wr c0 i hi ?_ e3) (hS.put e2 e3 (hW.1 c0 i hi).2)
  rw [he']
  exact ⟨_, hc, t_OB.to (V := updV (vp_V fs) k v) ⟨_, e1, q2, q3, t_set q4 hap hk v⟩ (fun j _ => vp_updV_set hl v j)⟩
theorem w_puti (X : k_X p m c cc nL s args own G) (hW : Wd G ad nA nK I J H) (hS : va_S (k_A G) s.heap H locs) (c0 i : Nat) (hi : i < k_n nA nK c0) {C : String} {T : u_T} {N ci index : Nat} {fs : List Value} (he : k_ent G ad c0 i (I c0 i) (J c0 i) = .inr (ci, fs)) (hc : vwCl[ci]? = some (C, T, N)) (hin : ∀ w ∈ u_ws C T N, w ∈ GW) (ty0 : Nat → FieldType) (hty : ∀ k, k < N → parseFieldDescriptor (T k).2.2.1 = some (ty0 k)) (hnm : ∀ a, a < N → ∀ b, b < N → a ≠ b → (T a).2.1 ≠ (T b).2.1) (k : Nat) (hk : k < N) (hlink : Cond.fieldLink own index (T k).1 (T k).2.1 (T k).2.2.1 ∈ GW) (hfin : (T k).2.2.2 = false) {x : Int32} (hn : narrow (ty0 k) (.int x) = .int x) (hfit : fits (ty0 k) (.int x) = true) (hl : k < fs.length) (he' : k_ent G ad c0 i (upd (I c0 i) k x) (J c0 i) = .inr (ci, fs.set k (.int x))) (hdg : decode cc pc = .ok (.putfield index, 3))
    (kk : ∀ (H1 : Heap) (locs1 : List Loc), Wd G ad nA nK (k_up I c0 i (upd (I c0 i) k x)) J H1 → va_S (k_A G) s.heap H1 locs1 → W p l e R s m args below meth c H1 locs1 cells slots Q (F0 m (pc + 3) ls rest)) : W p l e R s m args below meth c H locs cells slots Q (F0 m pc ls (.int x :: .ref (ad c0 i) :: rest)) := by
  refine w_put X hW hS c0 i hi he hc hin ty0 hty hnm k hk hlink hfin hn hfit hl he' hdg fun H1 locs1 h1 h2 => ?_
  rw [k_up_id] at h1
  exact kk H1 locs1 h1 h2
theorem w_putl (X : k_X p m c cc nL s args own G) (hW : Wd G ad nA nK I J H) (hS : va_S (k_A G) s.heap H locs) (c0 i : Nat) (hi : i < k_n nA nK c0) {C : String} {T : u_T} {N ci index : Nat} {fs : List Value} (he : k_ent G ad c0 i (I c0 i) (J c0 i) = .inr (ci, fs)) (hc : vwCl[ci]? = some (C, T, N)) (hin : ∀ w ∈ u_ws C T N, w ∈ GW) (ty0 : Nat → FieldType) (hty : ∀ k, k < N → parseFieldDescriptor (T k).2.2.1 = some (ty0 k)) (hnm : ∀ a, a < N → ∀ b, b < N → a ≠ b → (T a).2.1 ≠ (T b).2.1) (k : Nat) (hk : k < N) (hlink : Cond.fieldLink own index (T k).1 (T k).2.1 (T k).2.2.1 ∈ GW) (hfin : (T k).2.2.2 = false) {x : Int64} (hn : narrow (ty0 k) (.long x) = .long x) (hfit : fits (ty0 k) (.long x) = true) (hl : k < fs.length) (he' : k_ent G ad c0 i (I c0 i) (vp_updL (J c0 i) k x) = .inr (ci, fs.set k (.long x))) (hdg : decode cc pc = .ok (.putfield index, 3))
    (kk : ∀ (H1 : Heap) (locs1 : List Loc), Wd G ad nA nK I (k_up J c0 i (vp_updL (J c0 i) k x)) H1 → va_S (k_A G) s.heap H1 locs1 → W p l e R s m args below meth c H1 locs1 cells slots Q (F0 m (pc + 3) ls rest)) : W p l e R s m args below meth c H locs cells slots Q (F0 m pc ls (.long x :: .ref (ad c0 i) :: rest)) := by
  refine w_put X hW hS c0 i hi he hc hin ty0 hty hnm k hk hlink hfin hn hfit hl he' hdg fun H1 locs1 h1 h2 => ?_
  rw [k_up_id] at h1
  exact kk H1 locs1 h1 h2
/-! arrays -/
theorem w_iald (X : k_X p m c cc nL s args own G) (hW : Wd G ad nA nK I J H) (c0 j : Nat) (hj : j < k_n nA nK c0) {n : Nat} {f : Nat → Int32} (he : k_ent G ad c0 j (I c0 j) (J c0 j) = k_ar n (G.2.1 0) f) {i : Int32} (hin : vp_in i n) (hdg : decode cc pc = .ok (.iaload, 1))
    (kk : W p l e R s m args below meth c H locs cells slots Q (F0 m (pc + 1) ls (.int (f i.toNatClampNeg) :: rest))) : W p l e R s m args below meth c H locs cells slots Q (F0 m pc ls (.int i :: .ref (ad c0 j) :: rest)) := by
  have hP := hW.P c0 j hj
  rw [he] at hP
  exact va_iald X.1.1 X.1.2.1 X.2.1 hP 0 0 rfl rfl hin hdg kk
theorem w_zald (X : k_X p m c cc nL s args own G) (hW : Wd G ad nA nK I J H) (c0 j : Nat) (hj : j < k_n nA nK c0) {n : Nat} {f : Nat → Int32} (he : k_ent G ad c0 j (I c0 j) (J c0 j) = k_ar n (G.2.1 2) f) {i : Int32} (hin : vp_in i n) (hdg : decode cc pc = .ok (.baload, 1))
    (kk : W p l e R s m args below meth c H locs cells slots Q (F0 m (pc + 1) ls (.int (f i.toNatClampNeg) :: rest))) : W p l e R s m args below meth c H locs cells slots Q (F0 m pc ls (.int i :: .ref (ad c0 j) :: rest)) := by
  have hP := hW.P c0 j hj
  rw [he] at hP
  exact va_zald X.1.1 X.1.2.1 X.2.1 hP 0 2 rfl rfl hin hdg kk
theorem w_lald (X : k_X p m c cc nL s args own G) (hW : Wd G ad nA nK I J H) (c0 j : Nat) (hj : j < k_n nA nK c0) {n : Nat} {f : Nat → Int64} (he : k_ent G ad c0 j (I c0 j) (J c0 j) = k_al n (G.2.1 1) f) {i : Int32} (hin : vp_in i n) (hdg : decode cc pc = .ok (.laload, 1))
    (kk : W p l e R s m args below meth c H locs cells slots Q (F0 m (pc + 1) ls (.long (f i.toNatClampNeg) :: rest))) : W p l e R s m args below meth c H locs cells slots Q (F0 m pc ls (.int i :: .ref (ad c0 j) :: rest)) := by
  have hP := hW.P c0 j hj
  rw [he] at hP
  exact va_lald X.1.1 X.1.2.1 X.2.1 hP 0 1 rfl rfl hin hdg kk
theorem w_alen (X : k_X p m c cc nL s args own G) (hW : Wd G ad nA nK I J H) (c0 j : Nat) (hj : j < k_n nA nK c0) {cA : ClassId} {x : vp_A} (he : k_ent G ad c0 j (I c0 j) (J c0 j) = .inl (cA, x)) (t0 : Nat) {ty : FieldType} (ht : (k_tys G)[t0]? = some (cA, ty)) {v : Int32} (hv : Int32.ofNat x.1 = v) (hdg : decode cc pc = .ok (.arraylength, 1))
    (kk : W p l e R s m args below meth c H locs cells slots Q (F0 m (pc + 1) ls (.int v :: rest))) : W p l e R s m args below meth c H locs cells slots Q (F0 m pc ls (.ref (ad c0 j) :: rest)) := by
  have hP := hW.P c0 j hj
  rw [he] at hP
  exact va_alen X.1.1 X.1.2.1 X.2.1 hP 0 t0 rfl ht hv hdg kk
theorem w_aald (X : k_X p m c cc nL s args own G) (hW : Wd G ad nA nK I J H) (c0 j : Nat) (hj : j < k_n nA nK c0) {cA : ClassId} {C : String} {n : Nat} {f : Nat → Option Nat} (he : k_ent G ad c0 j (I c0 j) (J c0 j) = .inl (cA, n, .inr (.inr (.inr (.inr f))))) (t0 : Nat) (ht : (k_tys G)[t0]? = some (cA, .object C)) {i : Int32} (hin : vp_in i n) (hdg : decode cc pc = .ok (.aaload, 1))
    (kk : W p l e R s m args below meth c H locs cells slots Q (F0 m (pc + 1) ls (va_rf (f i.toNatClampNeg) :: rest))) : W p l e R s m args below meth c H locs cells slots Q (F0 m pc ls (.int i :: .ref (ad c0 j) :: rest)) := by
  have hP := hW.P c0 j hj
  rw [he] at hP
  exact va_aldq X.1.1 X.1.2.1 X.2.1 hP 0 t0 rfl ht hin hdg kk
theorem w_iast (X : k_X p m c cc nL s args own G) (hW : Wd G ad nA nK I J H) (hS : va_S (k_A G) s.heap H locs) (c0 j : Nat) (hj : j < k_n nA nK c0) {n : Nat} {f : Nat → Int32} (he : k_ent G ad c0 j (I c0 j) (J c0 j) = k_ar n (G.2.1 0) f) {i x : Int32} (hin : vp_in i n) (he' : k_ent G ad c0 j (upd (I c0 j) i.toNatClampNeg x) (J c0 j) = k_ar n (G.2.1 0) (upd f i.toNatClampNeg x)) (hdg : decode cc pc = .ok (.iastore, 1))
    (kk : ∀ (H1 : Heap) (locs1 : List Loc), Wd G ad nA nK (k_up I c0 j (upd (I c0 j) i.toNatClampNeg x)) J H1 → va_S (k_A G) s.heap H1 locs1 → W p l e R s m args below meth c H1 locs1 cells slots Q (F0 m (pc + 1) ls rest)) : W p l e R s m args below meth c H locs cells slots Q (F0 m pc ls (.int x :: .int i :: .ref (ad c0 j) :: rest)) := by
  have hP := (hW.1 c0 j hj).1
  rw [he] at hP
  refine W.iast X.1.1 X.1.2.1 hP ((X.2.1.2 0 _ rfl).1 n (fun j => .int (f j))) (fun q => by cases q) (by show ¬ (i < 0 ∨ (arrV _ _ _).slots.size ≤ _); rw [arrV_size]; exact hin) rfl rfl hdg fun H1 e z oq => ?_
  have h1 := hW.wr c0 j hj (f := upd (I c0 j) i.toNatClampNeg x) (g := J c0 j) (H1 := H1) (by
    rw [he']
    show H1[_]? = some (vp_cell _ _)
    rw [e]
    rw [vp_cell_i, vp_cell_i, arrV_store]
    congr 2
    funext q
    by_cases hq : q = i.toNatClampNeg
    · subst hq
      simp [updV, upd]
    · simp [updV, upd, hq]) oq
  rw [k_up_id] at h1
  exact kk H1 _ h1 (hS.put z oq (hW.1 c0 j hj).2)
theorem w_zast (X : k_X p m c cc nL s args own G) (hW : Wd G ad nA nK I J H) (hS : va_S (k_A G) s.heap H locs) (c0 j : Nat) (hj : j < k_n nA nK c0) {n : Nat} {f : Nat → Int32} (he : k_ent G ad c0 j (I c0 j) (J c0 j) = k_ar n (G.2.1 2) f) {i x : Int32} (hx : vp_nar .boolean x = x) (hin : vp_in i n) (he' : k_ent G ad c0 j (upd (I c0 j) i.toNatClampNeg x) (J c0 j) = k_ar n (G.2.1 2) (upd f i.toNatClampNeg x)) (hdg : decode cc pc = .ok (.bastore, 1))
    (kk : ∀ (H1 : Heap) (locs1 : List Loc), Wd G ad nA nK (k_up I c0 j (upd (I c0 j) i.toNatClampNeg x)) J H1 → va_S (k_A G) s.heap H1 locs1 → W p l e R s m args below meth c H1 locs1 cells slots Q (F0 m (pc + 1) ls rest)) : W p l e R s m args below meth c H locs cells slots Q (F0 m pc ls (.int x :: .int i :: .ref (ad c0 j) :: rest)) := by
  have hP := (hW.1 c0 j hj).1
  rw [he] at hP
  refine W.zast X.1.1 X.1.2.1 hP ((X.2.1.2 2 _ rfl).1 n (fun j => .int (f j))) (fun q => by cases q) (by show ¬ (i < 0 ∨ (arrV _ _ _).slots.size ≤ _); rw [arrV_size]; exact hin) rfl rfl hdg fun H1 e z oq => ?_
  have h1 := hW.wr c0 j hj (f := upd (I c0 j) i.toNatClampNeg x) (g := J c0 j) (H1 := H1) (by
    rw [he']
    show H1[_]? = some (vp_cell _ _)
    rw [e]
    rw [vp_cell_i, vp_cell_i, arrV_store]
    congr 2
    funext q
    by_cases hq : q = i.toNatClampNeg
    · subst hq
      simp only [updV, upd, if_true]
      have h9 : narrow .boolean (.int x) = .int (vp_nar .boolean x) := rfl
      rw [h9, hx]
    · simp [updV, upd, hq]) oq
  rw [k_up_id] at h1
  exact kk H1 _ h1 (hS.put z oq (hW.1 c0 j hj).2)
theorem w_last (X : k_X p m c cc nL s args own G) (hW : Wd G ad nA nK I J H) (hS : va_S (k_A G) s.heap H locs) (c0 j : Nat) (hj : j < k_n nA nK c0) {n : Nat} {f : Nat → Int64} (he : k_ent G ad c0 j (I c0 j) (J c0 j) = k_al n (G.2.1 1) f) {i : Int32} {x : Int64} (hin : vp_in i n) (he' : k_ent G ad c0 j (I c0 j) (vp_updL (J c0 j) i.toNatClampNeg x) = k_al n (G.2.1 1) (vp_updL f i.toNatClampNeg x)) (hdg : decode cc pc = .ok (.lastore, 1))
    (kk : ∀ (H1 : Heap) (locs1 : List Loc), Wd G ad nA nK I (k_up J c0 j (vp_updL (J c0 j) i.toNatClampNeg x)) H1 → va_S (k_A G) s.heap H1 locs1 → W p l e R s m args below meth c H1 locs1 cells slots Q (F0 m (pc + 1) ls rest)) : W p l e R s m args below meth c H locs cells slots Q (F0 m pc ls (.long x :: .int i :: .ref (ad c0 j) :: rest)) := by
  have hP := (hW.1 c0 j hj).1
  rw [he] at hP
  refine W.last X.1.1 X.1.2.1 hP ((X.2.1.2 1 _ rfl).1 n (fun j => .long (f j))) (fun q => by cases q) (by show ¬ (i < 0 ∨ (arrV _ _ _).slots.size ≤ _); rw [arrV_size]; exact hin) rfl rfl hdg fun H1 e z oq => ?_
  have h1 := hW.wr c0 j hj (f := I c0 j) (g := vp_updL (J c0 j) i.toNatClampNeg x) (H1 := H1) (by
    rw [he']
    show H1[_]? = some (vp_cell _ _)
    rw [e]
    rw [vp_cell_l, vp_cell_l, arrV_store]
    congr 2
    funext q
    by_cases hq : q = i.toNatClampNeg
    · subst hq
      simp [updV, vp_updL]
    · simp [updV, vp_updL, hq]) oq
  rw [k_up_id] at h1
  exact kk H1 _ h1 (hS.put z oq (hW.1 c0 j hj).2)
/-! the static array -/
theorem w_gets (X : k_X p m c cc nL s args own G) (hS : va_S (k_A G) s.heap H locs) {index : Nat} (hlink : Cond.fieldLink own index "AnswerKeeper" "ALL_VALUES" "[I" ∈ GW) (hdg : decode cc pc = .ok (.getstatic index, 3))
    (kk : W p l e R s m args below meth c H locs cells slots Q (F0 m (pc + 3) ls (.ref G.2.2.2 :: rest))) : W p l e R s m args below meth c H locs cells slots Q (F0 m pc ls rest) :=
  va_gets X.1.1 X.1.2.1 X.2.2.1 hS X.1.2.2.2.1 (X.1.2.2.2.2 _ hlink) (fun x h => h) hdg kk
theorem w_tlen (X : k_X p m c cc nL s args own G) (hS : va_S (k_A G) s.heap H locs) (hdg : decode cc pc = .ok (.arraylength, 1))
    (kk : W p l e R s m args below meth c H locs cells slots Q (F0 m (pc + 1) ls (.int 3 :: rest))) : W p l e R s m args below meth c H locs cells slots Q (F0 m pc ls (.ref G.2.2.2 :: rest)) :=
  va_tlen X.1.1 X.1.2.1 X.2.2.2.1 hS rfl hdg kk
theorem w_tld (X : k_X p m c cc nL s args own G) (hS : va_S (k_A G) s.heap H locs) {i : Int32} (hin : vp_in i 3) (hdg : decode cc pc = .ok (.iaload, 1))
    (kk : W p l e R s m args below meth c H locs cells slots Q (F0 m (pc + 1) ls (.int (k_allv i.toNatClampNeg) :: rest))) : W p l e R s m args below meth c H locs cells slots Q (F0 m pc ls (.int i :: .ref G.2.2.2 :: rest)) :=
  va_ti X.1.1 X.1.2.1 X.2.2.2.1 hS hin rfl hdg kk
/-! returns -/
theorem w_iret (X : k_X p m c cc nL s args own G) (hr : meth.sig.returnType = some .int) (hlk : meth.locks = false) (hS : va_S (k_A G) s.heap H locs) {B : Heap → Prop} {x v : Int32} (hv : x = v) (hB : B H) (hdg : decode cc pc = .ok (.ireturn, 1)) : W p l e R s m args below meth c H locs cells slots (MQ below (k_Q G (some (.int v)) B) args s cells slots (k_A G)) (F0 m pc ls [.int x]) := by
  subst hv
  exact W.iret X.1.1 X.1.2.1 hr (fun t ht hW => ⟨rfl, by rw [ht]; exact hB, hS.F ht⟩) hS.2.2 hdg hlk
theorem w_zret (X : k_X p m c cc nL s args own G) (hr : meth.sig.returnType = some .boolean) (hlk : meth.locks = false) (hS : va_S (k_A G) s.heap H locs) {B : Heap → Prop} {x v : Int32} (hv : x = v) (hn : narrow .boolean (.int v) = .int v) (hB : B H) (hdg : decode cc pc = .ok (.ireturn, 1)) : W p l e R s m args below meth c H locs cells slots (MQ below (k_Q G (some (.int v)) B) args s cells slots (k_A G)) (F0 m pc ls [.int x]) := by
  subst hv
  exact W.zret X.1.1 X.1.2.1 hr hn (fun t ht hW => ⟨rfl, by rw [ht]; exact hB, hS.F ht⟩) hS.2.2 hdg hlk
theorem w_lret (X : k_X p m c cc nL s args own G) (hr : meth.sig.returnType = some .long) (hlk : meth.locks = false) (hS : va_S (k_A G) s.heap H locs) {B : Heap → Prop} {x v : Int64} (hv : x = v) (hB : B H) (hdg : decode cc pc = .ok (.lreturn, 1)) : W p l e R s m args below meth c H locs cells slots (MQ below (k_Q G (some (.long v)) B) args s cells slots (k_A G)) (F0 m pc ls [.long x]) := by
  subst hv
  exact W.lret X.1.1 X.1.2.1 hr (fun t ht hW => ⟨rfl, by rw [ht]; exact hB, hS.F ht⟩) hS.2.2 hdg hlk
theorem w_vret (X : k_X p m c cc nL s args own G) (hr : meth.sig.returnType = none) (hlk : meth.locks = false) (hS : va_S (k_A G) s.heap H locs) {B : Heap → Prop} (hB : B H) (hdg : decode cc pc = .ok (.return_, 1)) : W p l e R s m args below meth c H locs cells slots (MQ below (k_Q G none B) args s cells slots (k_A G)) (F0 m pc ls []) :=
  W.vret X.1.1 X.1.2.1 hr (fun t ht hW => ⟨rfl, by rw [ht]; exact hB, hS.F ht⟩) hS.2.2 hdg hlk
theorem w_aret (X : k_X p m c cc nL s args own G) {n : String} (hr : meth.sig.returnType = some (.object n)) (hlk : meth.locks = false) (hS : va_S (k_A G) s.heap H locs) {B : Heap → Prop} {x : Value} {r : Option Nat} (hv : x = va_rf r) (hB : B H) (hdg : decode cc pc = .ok (.areturn, 1)) : W p l e R s m args below meth c H locs cells slots (MQ below (k_Q G (some (va_rf r)) B) args s cells slots (k_A G)) (F0 m pc ls [x]) := by
  subst hv
  exact W.aret X.1.1 X.1.2.1 hr (Or.inl ⟨n, rfl⟩) (va_rf_or r) (fun t ht hW => ⟨rfl, by rw [ht]; exact hB, hS.F ht⟩) hS.2.2 hdg hlk
end KW
section KC
variable {p : Program} {l : Launch} {e : Env} {R : Room} {s : State} {m : MethodId} {args : Array Value} {below : List Frame} {meth : Method} {c : Code} {H : Heap} {locs : List Loc} {cells slots : Nat} {Q : State → Prop}
variable {cc bytes : ByteArray} {pc nL maxL index n mc ms : Nat} {ls : Array Slot} {rest st As : List Value} {own : String} {b : Nat}
variable {G : k_G} {y : MethodName} {ret : Option FieldType} {rm : Room} {P B : Heap → Prop} {v : Option Value}
theorem k_goodGW {w : Cond} (h : w ∈ GW) : (w.onTables && w.keeps) = true ∨ ∃ ty, w = .arrayClass ty := good_of_word (GW_good h)
theorem k_blind {av : List Value} : FrameBlind (va_Pc av (fun U => k_Wk G U ∧ P U.heap)) := fun a U g mk q => ⟨q.1, q.2.1.calling a g mk, q.2.2⟩
theorem k_cb (X : k_X p m c cc nL s args own G) (hcode : Cond.code y bytes maxL ret ∈ GW) (hini : Cond.initialized y.cls ∈ GW) (hl : Cond.methodLink own index y ∈ GW) (hd : y.cls ≠ "java/lang/invoke/MethodHandle" ∧ y.cls ≠ "java/lang/invoke/VarHandle" ∧ (parseMethodDescriptor y.desc).map (fun d => d.parameters.length) = some n) (hR : rm.frames + 1 ≤ R.frames ∧ 8 + (maxL + 11) + rm.locals ≤ R.locals) :
    CallB R s args own index y bytes maxL ret (Cond.code y bytes maxL ret :: GW) rm rm.cells rm.slots n :=
  callB_of n X.1.2.2.2.2 (fun w hw => by
    rcases List.mem_cons.mp hw with h | h
    · rw [h]; exact ⟨hcode, k_goodGW hcode⟩
    · exact ⟨h, k_goodGW h⟩) rfl rfl rfl (X.1.2.2.2.2 _ hini) (X.1.2.2.2.2 _ hl) hd hR
theorem k_cn {host : String} (X : k_X p m c cc nL s args own G) (hcode : Cond.code y bytes maxL ret ∈ GW) (hini : Cond.initialized y.cls ∈ GW) (hl : va_Nw (.methodLinkNest own index y host) s) (hd : y.cls ≠ "java/lang/invoke/MethodHandle" ∧ y.cls ≠ "java/lang/invoke/VarHandle" ∧ (parseMethodDescriptor y.desc).map (fun d => d.parameters.length) = some n) (hR : rm.frames + 1 ≤ R.frames ∧ 8 + (maxL + 11) + rm.locals ≤ R.locals) :
    va_CN R s args own index y host bytes maxL ret (Cond.code y bytes maxL ret :: GW) rm rm.cells rm.slots n :=
  va_cnB n X.1.2.2.2.2 (fun w hw => by
    rcases List.mem_cons.mp hw with h | h
    · rw [h]; exact ⟨hcode, k_goodGW hcode⟩
    · exact ⟨h, k_goodGW h⟩) rfl rfl rfl hl (X.1.2.2.2.2 _ hini) hd hR
theorem k_after (hr : va_Run p l e R s m args below meth c H locs cells slots mc ms (F0 m pc ls st) rest ((k_Q G v B) As.toArray) (k_A G)) (hS : va_S (k_A G) s.heap H locs)
    (kk : ∀ (H1 : Heap) (locs1 : List Loc), B H1 → va_S (k_A G) s.heap H1 locs1 → W p l e R s m args below meth c H1 locs1 (cells + mc) (slots + ms) Q (F0 m (pc + 3) ls (v.toList ++ rest))) : W p l e R s m args below meth c H locs cells slots Q (F0 m pc ls st) := by
  intro T hT X
  obtain ⟨v', st₀, t, T', L, h0, X', hL, e1, e2, ⟨hv, hb, hz, hk⟩, st'⟩ := hr T hT X
  cases hv
  rw [h0] at hz hk
  obtain ⟨t2, a1, b1⟩ := kk T'.heap (locs ++ L) (by rw [e1]; exact hb)
    ⟨Nat.le_trans hS.1 (by rw [e1]; exact hz), fun q h1 h2 => by rw [e1, hk q (Nat.lt_of_lt_of_le h1 hS.1) h2]; exact hS.2.1 q h1 h2, fun q hq => by
      rcases List.mem_append.mp hq with h | h
      · exact hS.2.2 q h
      · exact hL q h⟩ T' rfl X'
  exact ⟨t2, st' t2 a1, b1⟩
/-- a call of a method of an object's own class, over a contract -/
theorem w_cV (X : k_X p m c cc nL s args own G) (hS : va_S (k_A G) s.heap H locs) (hM : k_Met l y bytes maxL ret rm G (.ref b :: As) P v B rm.cells rm.slots) (hcode : Cond.code y bytes maxL ret ∈ GW) (hini : Cond.initialized y.cls ∈ GW) (hl : Cond.methodLink own index y ∈ GW) (him : Cond.instanceMethod y ∈ GW) (hsel : Cond.selects y.cls y y ∈ GW) (hd : y.cls ≠ "java/lang/invoke/MethodHandle" ∧ y.cls ≠ "java/lang/invoke/VarHandle" ∧ (parseMethodDescriptor y.desc).map (fun d => d.parameters.length) = some As.length) (hR : rm.frames + 1 ≤ R.frames ∧ 8 + (maxL + 11) + rm.locals ≤ R.locals)
    (hrec : ∃ cellB : Cell, H[b]? = some cellB ∧ cellB.vm.isStatics = false ∧ s.vm.findClass y.cls = some cellB.cls) (hP : P H) (hsize : ls.size = nL) (hstack : st = As.reverse ++ .ref b :: rest) (hcat : (rest.map fun v => v.category).sum ≤ 8) (hdg : decode cc pc = .ok (.invokevirtual index, 3)) (hf : cells + rm.cells ≤ R.cells ∧ slots + rm.slots ≤ R.slots)
    (kk : ∀ (H1 : Heap) (locs1 : List Loc), B H1 → va_S (k_A G) s.heap H1 locs1 → W p l e R s m args below meth c H1 locs1 (cells + rm.cells) (slots + rm.slots) Q (F0 m (pc + 3) ls (v.toList ++ rest))) : W p l e R s m args below meth c H locs cells slots Q (F0 m pc ls st) :=
  k_after (As := .ref b :: As) (va_runV X.1 hM ⟨k_cb X hcode hini hl hd hR, X.1.2.2.2.2 _ him, X.1.2.2.2.2 _ hsel⟩ ⟨k_blind, hrec, fun U hU hW => ⟨rfl, X.2.go hS hU hW, by rw [hU]; exact hP⟩⟩ rfl rfl hsize hstack (lv_room hcat) hdg hf) hS kk
/-- of a static method of the same class (or of any class: its own link) -/
theorem w_cS (X : k_X p m c cc nL s args own G) (hS : va_S (k_A G) s.heap H locs) (hM : k_Met l y bytes maxL ret rm G As P v B rm.cells rm.slots) (hcode : Cond.code y bytes maxL ret ∈ GW) (hini : Cond.initialized y.cls ∈ GW) (hl : Cond.methodLink own index y ∈ GW) (hst : Cond.static y ∈ GW) (hd : y.cls ≠ "java/lang/invoke/MethodHandle" ∧ y.cls ≠ "java/lang/invoke/VarHandle" ∧ (parseMethodDescriptor y.desc).map (fun d => d.parameters.length) = some As.length) (hR : rm.frames + 1 ≤ R.frames ∧ 8 + (maxL + 11) + rm.locals ≤ R.locals)
    (hP : P H) (hsize : ls.size = nL) (hstack : st = As.reverse ++ rest) (hcat : (rest.map fun v => v.category).sum ≤ 8) (hdg : decode cc pc = .ok (.invokestatic index, 3)) (hf : cells + rm.cells ≤ R.cells ∧ slots + rm.slots ≤ R.slots)
    (kk : ∀ (H1 : Heap) (locs1 : List Loc), B H1 → va_S (k_A G) s.heap H1 locs1 → W p l e R s m args below meth c H1 locs1 (cells + rm.cells) (slots + rm.slots) Q (F0 m (pc + 3) ls (v.toList ++ rest))) : W p l e R s m args below meth c H locs cells slots Q (F0 m pc ls st) :=
  k_after (As := As) (va_runS X.1 hM ⟨k_cb X hcode hini hl hd hR, X.1.2.2.2.2 _ hst⟩ ⟨k_blind, fun U hU hW => ⟨rfl, X.2.go hS hU hW, by rw [hU]; exact hP⟩⟩ rfl rfl hsize hstack (lv_room hcat) hdg hf) hS kk
/-- of a nest mate's private static method -/
theorem w_cN {host : String} (X : k_X p m c cc nL s args own G) (hS : va_S (k_A G) s.heap H locs) (hM : k_Met l y bytes maxL ret rm G As P v B rm.cells rm.slots) (hcode : Cond.code y bytes maxL ret ∈ GW) (hini : Cond.initialized y.cls ∈ GW) (hl : va_Nw (.methodLinkNest own index y host) s) (hst : Cond.static y ∈ GW) (hd : y.cls ≠ "java/lang/invoke/MethodHandle" ∧ y.cls ≠ "java/lang/invoke/VarHandle" ∧ (parseMethodDescriptor y.desc).map (fun d => d.parameters.length) = some As.length) (hR : rm.frames + 1 ≤ R.frames ∧ 8 + (maxL + 11) + rm.locals ≤ R.locals)
    (hP : P H) (hsize : ls.size = nL) (hstack : st = As.reverse ++ rest) (hcat : (rest.map fun v => v.category).sum ≤ 8) (hdg : decode cc pc = .ok (.invokestatic index, 3)) (hf : cells + rm.cells ≤ R.cells ∧ slots + rm.slots ≤ R.slots)
    (kk : ∀ (H1 : Heap) (locs1 : List Loc), B H1 → va_S (k_A G) s.heap H1 locs1 → W p l e R s m args below meth c H1 locs1 (cells + rm.cells) (slots + rm.slots) Q (F0 m (pc + 3) ls (v.toList ++ rest))) : W p l e R s m args below meth c H locs cells slots Q (F0 m pc ls st) :=
  k_after (As := As) (va_runSN X.1 hM ⟨k_cn X hcode hini hl hd hR, X.1.2.2.2.2 _ hst, trivial⟩ ⟨k_blind, fun U hU hW => ⟨rfl, X.2.go hS hU hW, by rw [hU]; exact hP⟩⟩ rfl rfl hsize hstack (lv_room hcat) hdg hf) hS kk
/-- of a constructor -/
theorem w_cI (X : k_X p m c cc nL s args own G) (hS : va_S (k_A G) s.heap H locs) (hM : k_Met l y bytes maxL none rm G (.ref b :: As) P v B rm.cells rm.slots) (hcode : Cond.code y bytes maxL none ∈ GW) (hini : Cond.initialized y.cls ∈ GW) (hl : Cond.methodLink own index y ∈ GW) (him : Cond.instanceMethod y ∈ GW) (hy1 : y.name = "<init>") (hd : y.cls ≠ "java/lang/invoke/MethodHandle" ∧ y.cls ≠ "java/lang/invoke/VarHandle" ∧ (parseMethodDescriptor y.desc).map (fun d => d.parameters.length) = some As.length) (hR : rm.frames + 1 ≤ R.frames ∧ 8 + (maxL + 11) + rm.locals ≤ R.locals)
    (hP : P H) (hsize : ls.size = nL) (hstack : st = As.reverse ++ .ref b :: rest) (hcat : (rest.map fun v => v.category).sum ≤ 8) (hdg : decode cc pc = .ok (.invokespecial index, 3)) (hf : cells + rm.cells ≤ R.cells ∧ slots + rm.slots ≤ R.slots)
    (kk : ∀ (H1 : Heap) (locs1 : List Loc), B H1 → va_S (k_A G) s.heap H1 locs1 → W p l e R s m args below meth c H1 locs1 (cells + rm.cells) (slots + rm.slots) Q (F0 m (pc + 3) ls (v.toList ++ rest))) : W p l e R s m args below meth c H locs cells slots Q (F0 m pc ls st) :=
  k_after (As := .ref b :: As) (va_runI X.1 hM ⟨k_cb X hcode hini hl hd hR, hy1, X.1.2.2.2.2 _ him⟩ ⟨k_blind, fun U hU hW => ⟨rfl, X.2.go hS hU hW, by rw [hU]; exact hP⟩⟩ rfl rfl hsize hstack (lv_room hcat) hdg hf) hS kk
theorem w_cIN {host : String} (X : k_X p m c cc nL s args own G) (hS : va_S (k_A G) s.heap H locs) (hM : k_Met l y bytes maxL none rm G (.ref b :: As) P v B rm.cells rm.slots) (hcode : Cond.code y bytes maxL none ∈ GW) (hini : Cond.initialized y.cls ∈ GW) (hl : va_Nw (.methodLinkNest own index y host) s) (him : Cond.instanceMethod y ∈ GW) (hy1 : y.name = "<init>") (hd : y.cls ≠ "java/lang/invoke/MethodHandle" ∧ y.cls ≠ "java/lang/invoke/VarHandle" ∧ (parseMethodDescriptor y.desc).map (fun d => d.parameters.length) = some As.length) (hR : rm.frames + 1 ≤ R.frames ∧ 8 + (maxL + 11) + rm.locals ≤ R.locals)
    (hP : P H) (hsize : ls.size = nL) (hstack : st = As.reverse ++ .ref b :: rest) (hcat : (rest.map fun v => v.category).sum ≤ 8) (hdg : decode cc pc = .ok (.invokespecial index, 3)) (hf : cells + rm.cells ≤ R.cells ∧ slots + rm.slots ≤ R.slots)
    (kk : ∀ (H1 : Heap) (locs1 : List Loc), B H1 → va_S (k_A G) s.heap H1 locs1 → W p l e R s m args below meth c H1 locs1 (cells + rm.cells) (slots + rm.slots) Q (F0 m (pc + 3) ls (v.toList ++ rest))) : W p l e R s m args below meth c H locs cells slots Q (F0 m pc ls st) :=
  k_after (As := .ref b :: As) (va_runIN X.1 hM ⟨k_cn X hcode hini hl hd hR, hy1, X.1.2.2.2.2 _ him⟩ ⟨k_blind, fun U hU hW => ⟨rfl, X.2.go hS hU hW, by rw [hU]; exact hP⟩⟩ rfl rfl hsize hstack (lv_room hcat) hdg hf) hS kk
/-- an object of the world as a receiver -/
theorem k_rec {ad : Nat → Nat → Nat} {nA nK : Nat} {I : k_I} {J : k_J} (X : k_X p m c cc nL s args own G) (hW : Wd G ad nA nK I J H) (c0 i : Nat) (hi : i < k_n nA nK c0) {q : vw_C} {ci : Nat} {fs : List Value} (he : k_ent G ad c0 i (I c0 i) (J c0 i) = .inr (ci, fs)) (hc : vwCl[ci]? = some q) : ∃ cellB : Cell, H[ad c0 i]? = some cellB ∧ cellB.vm.isStatics = false ∧ s.vm.findClass q.1 = some cellB.cls := by
  have hP := hW.P c0 i hi
  rw [he] at hP
  exact va_recv (q0 := 0) X.2.1 hP hc rfl
end KC

/-! booleans as ints -/
def k_b (P : Bool) : Int32 := if P then 1 else 0
theorem k_b_n (P : Bool) : narrow .boolean (.int (k_b P)) = .int (k_b P) := by cases P <;> rfl
theorem k_b_v (P : Bool) : vp_nar .boolean (k_b P) = k_b P := by cases P <;> rfl
theorem k_b_f (P : Bool) : fits .boolean (.int (k_b P)) = true := by cases P <;> rfl
theorem k_b0 {P : Bool} (h : k_b P = 0) : P = false := by cases P with | false => rfl | true => exact absurd h (by decide)
theorem k_b1 {P : Bool} (h : ¬ k_b P = 0) : P = true := by cases P with | false => exact absurd rfl h | true => rfl
section KB
variable {p : Program} {l : Launch} {e : Env} {R : Room} {s : State} {m : MethodId} {args : Array Value} {below : List Frame} {meth : Method} {c : Code} {H : Heap} {locs : List Loc} {cells slots : Nat} {Q : State → Prop}
variable {cc : ByteArray} {pc nL : Nat} {ls : Array Slot} {rest st : List Value} {own : String}
theorem lb_if_eq (hexec : p.tables.exec = Jvm.exec) (hb : c.code = cc) {x : Bool} {off : Int} {tgt : Nat} (hdg : decode cc pc = .ok (.ifCond .eq off, 3)) (ht : (pc : Int) + off = (tgt : Int))
    (kt : x = false → W p l e R s m args below meth c H locs cells slots Q (F0 m tgt ls rest)) (kf : x = true → W p l e R s m args below meth c H locs cells slots Q (F0 m (pc + 3) ls rest)) : W p l e R s m args below meth c H locs cells slots Q (F0 m pc ls (.int (k_b x) :: rest)) :=
  lv_if_eq hexec hb hdg ht (fun h => kt (k_b0 h)) (fun h => kf (k_b1 h))
theorem lb_if_ne (hexec : p.tables.exec = Jvm.exec) (hb : c.code = cc) {x : Bool} {off : Int} {tgt : Nat} (hdg : decode cc pc = .ok (.ifCond .ne off, 3)) (ht : (pc : Int) + off = (tgt : Int))
    (kt : x = true → W p l e R s m args below meth c H locs cells slots Q (F0 m tgt ls rest)) (kf : x = false → W p l e R s m args below meth c H locs cells slots Q (F0 m (pc + 3) ls rest)) : W p l e R s m args below meth c H locs cells slots Q (F0 m pc ls (.int (k_b x) :: rest)) :=
  lv_if_ne hexec hb hdg ht (fun h => kt (k_b1 h)) (fun h => kf (k_b0 h))
end KB
/-! indices -/
theorem k_in_a {x N : Int32} {n : Nat} (h0 : ¬ x < 0) (h1 : ¬ N ≤ x) (hN : N.toInt = n) : vp_in x n := by
  rw [vp_in_iff]
  rw [Int32.lt_iff_toInt_lt] at h0
  rw [Int32.le_iff_toInt_le] at h1
  have : (0 : Int32).toInt = 0 := rfl
  omega
theorem k_in_b {x N : Int32} {n : Nat} (h0 : 0 ≤ x) (h1 : x < N) (hN : N.toInt = n) : vp_in x n := by
  rw [vp_in_iff]
  rw [Int32.lt_iff_toInt_lt] at h1
  rw [Int32.le_iff_toInt_le] at h0
  have : (0 : Int32).toInt = 0 := rfl
  omega
theorem k_lt {a b : Nat} (h : ¬ nI b ≤ nI a) (ha : a < 2 ^ 31) (hb : b < 2 ^ 31) : a < b := by
  rw [nI_leI hb ha] at h
  omega
theorem k_ge {a b : Nat} (h : nI b ≤ nI a) (ha : a < 2 ^ 31) (hb : b < 2 ^ 31) : b ≤ a := (nI_leI hb ha).mp h
end
section
/-! the rows in the forms that the walker writes -/
theorem Wd.to {G : k_G} {ad : Nat → Nat → Nat} {nA nK : Nat} {I I' : k_I} {J J' : k_J} {H : Heap} (h : Wd G ad nA nK I J H) (e1 : I = I') (e2 : J = J') : Wd G ad nA nK I' J' H := by subst e1; subst e2; exact h
section KR
variable {p : Program} {l : Launch} {e : Env} {R : Room} {s : State} {m : MethodId} {args : Array Value} {below : List Frame} {meth : Method} {c : Code} {H : Heap} {locs : List Loc} {cells slots : Nat} {Q : State → Prop}
variable {cc bytes : ByteArray} {pc nL maxL index : Nat} {ls : Array Slot} {rest st As : List Value} {own : String} {b : Nat}
variable {G : k_G} {y : MethodName} {ret : Option FieldType} {rm : Room} {P B : Heap → Prop} {v : Value}
variable {ad : Nat → Nat → Nat} {nA nK : Nat} {I : k_I} {J : k_J}
theorem w_cV1 (X : k_X p m c cc nL s args own G) (hS : va_S (k_A G) s.heap H locs) (hM : k_Met l y bytes maxL ret rm G (.ref b :: As) P (some v) B 0 0) (hc : rm.cells = 0) (hs : rm.slots = 0) (hcode : Cond.code y bytes maxL ret ∈ GW) (hini : Cond.initialized y.cls ∈ GW) (hl : Cond.methodLink own index y ∈ GW) (him : Cond.instanceMethod y ∈ GW) (hsel : Cond.selects y.cls y y ∈ GW) (hd : y.cls ≠ "java/lang/invoke/MethodHandle" ∧ y.cls ≠ "java/lang/invoke/VarHandle" ∧ (parseMethodDescriptor y.desc).map (fun d => d.parameters.length) = some As.length) (hR : rm.frames + 1 ≤ R.frames ∧ 8 + (maxL + 11) + rm.locals ≤ R.locals)
    (hrec : ∃ cellB : Cell, H[b]? = some cellB ∧ cellB.vm.isStatics = false ∧ s.vm.findClass y.cls = some cellB.cls) (hP : P H) (hsize : ls.size = nL) (hstack : st = As.reverse ++ .ref b :: rest) (hcat : (rest.map fun v => v.category).sum ≤ 8) (hdg : decode cc pc = .ok (.invokevirtual index, 3)) (hf1 : cells ≤ R.cells) (hf2 : slots ≤ R.slots)
    (kk : ∀ (H1 : Heap) (locs1 : List Loc), B H1 → va_S (k_A G) s.heap H1 locs1 → W p l e R s m args below meth c H1 locs1 cells slots Q (F0 m (pc + 3) ls (v :: rest))) : W p l e R s m args below meth c H locs cells slots Q (F0 m pc ls st) := by
  have hM' : k_Met l y bytes maxL ret rm G (.ref b :: As) P (some v) B rm.cells rm.slots := by rw [hc, hs]; exact hM
  exact w_cV X hS hM' hcode hini hl him hsel hd hR hrec hP hsize hstack hcat hdg ⟨by rw [hc]; exact hf1, by rw [hs]; exact hf2⟩ (fun H1 locs1 h1 h2 => W.cs (by rw [hc]; rfl) (by rw [hs]; rfl) (kk H1 locs1 h1 h2))
theorem w_cVv (X : k_X p m c cc nL s args own G) (hS : va_S (k_A G) s.heap H locs) (hM : k_Met l y bytes maxL ret rm G (.ref b :: As) P none B 0 0) (hc : rm.cells = 0) (hs : rm.slots = 0) (hcode : Cond.code y bytes maxL ret ∈ GW) (hini : Cond.initialized y.cls ∈ GW) (hl : Cond.methodLink own index y ∈ GW) (him : Cond.instanceMethod y ∈ GW) (hsel : Cond.selects y.cls y y ∈ GW) (hd : y.cls ≠ "java/lang/invoke/MethodHandle" ∧ y.cls ≠ "java/lang/invoke/VarHandle" ∧ (parseMethodDescriptor y.desc).map (fun d => d.parameters.length) = some As.length) (hR : rm.frames + 1 ≤ R.frames ∧ 8 + (maxL + 11) + rm.locals ≤ R.locals)
    (hrec : ∃ cellB : Cell, H[b]? = some cellB ∧ cellB.vm.isStatics = false ∧ s.vm.findClass y.cls = some cellB.cls) (hP : P H) (hsize : ls.size = nL) (hstack : st = As.reverse ++ .ref b :: rest) (hcat : (rest.map fun v => v.category).sum ≤ 8) (hdg : decode cc pc = .ok (.invokevirtual index, 3)) (hf1 : cells ≤ R.cells) (hf2 : slots ≤ R.slots)
    (kk : ∀ (H1 : Heap) (locs1 : List Loc), B H1 → va_S (k_A G) s.heap H1 locs1 → W p l e R s m args below meth c H1 locs1 cells slots Q (F0 m (pc + 3) ls rest)) : W p l e R s m args below meth c H locs cells slots Q (F0 m pc ls st) := by
  have hM' : k_Met l y bytes maxL ret rm G (.ref b :: As) P none B rm.cells rm.slots := by rw [hc, hs]; exact hM
  exact w_cV X hS hM' hcode hini hl him hsel hd hR hrec hP hsize hstack hcat hdg ⟨by rw [hc]; exact hf1, by rw [hs]; exact hf2⟩ (fun H1 locs1 h1 h2 => W.cs (by rw [hc]; rfl) (by rw [hs]; rfl) (kk H1 locs1 h1 h2))
theorem w_cS1 (X : k_X p m c cc nL s args own G) (hS : va_S (k_A G) s.heap H locs) (hM : k_Met l y bytes maxL ret rm G As P (some v) B 0 0) (hc : rm.cells = 0) (hs : rm.slots = 0) (hcode : Cond.code y bytes maxL ret ∈ GW) (hini : Cond.initialized y.cls ∈ GW) (hl : Cond.methodLink own index y ∈ GW) (hst : Cond.static y ∈ GW) (hd : y.cls ≠ "java/lang/invoke/MethodHandle" ∧ y.cls ≠ "java/lang/invoke/VarHandle" ∧ (parseMethodDescriptor y.desc).map (fun d => d.parameters.length) = some As.length) (hR : rm.frames + 1 ≤ R.frames ∧ 8 + (maxL + 11) + rm.locals ≤ R.locals)
    (hP : P H) (hsize : ls.size = nL) (hstack : st = As.reverse ++ rest) (hcat : (rest.map fun v => v.category).sum ≤ 8) (hdg : decode cc pc = .ok (.invokestatic index, 3)) (hf1 : cells ≤ R.cells) (hf2 : slots ≤ R.slots)
    (kk : ∀ (H1 : Heap) (locs1 : List Loc), B H1 → va_S (k_A G) s.heap H1 locs1 → W p l e R s m args below meth c H1 locs1 cells slots Q (F0 m (pc + 3) ls (v :: rest))) : W p l e R s m args below meth c H locs cells slots Q (F0 m pc ls st) := by
  have hM' : k_Met l y bytes maxL ret rm G As P (some v) B rm.cells rm.slots := by rw [hc, hs]; exact hM
  exact w_cS X hS hM' hcode hini hl hst hd hR hP hsize hstack hcat hdg ⟨by rw [hc]; exact hf1, by rw [hs]; exact hf2⟩ (fun H1 locs1 h1 h2 => W.cs (by rw [hc]; rfl) (by rw [hs]; rfl) (kk H1 locs1 h1 h2))
theorem w_cN1 {host : String} (X : k_X p m c cc nL s args own G) (hS : va_S (k_A G) s.heap H locs) (hM : k_Met l y bytes maxL ret rm G As P (some v) B 0 0) (hc : rm.cells = 0) (hs : rm.slots = 0) (hcode : Cond.code y bytes maxL ret ∈ GW) (hini : Cond.initialized y.cls ∈ GW) (hl : va_Nw (.methodLinkNest own index y host) s) (hst : Cond.static y ∈ GW) (hd : y.cls ≠ "java/lang/invoke/MethodHandle" ∧ y.cls ≠ "java/lang/invoke/VarHandle" ∧ (parseMethodDescriptor y.desc).map (fun d => d.parameters.length) = some As.length) (hR : rm.frames + 1 ≤ R.frames ∧ 8 + (maxL + 11) + rm.locals ≤ R.locals)
    (hP : P H) (hsize : ls.size = nL) (hstack : st = As.reverse ++ rest) (hcat : (rest.map fun v => v.category).sum ≤ 8) (hdg : decode cc pc = .ok (.invokestatic index, 3)) (hf1 : cells ≤ R.cells) (hf2 : slots ≤ R.slots)
    (kk : ∀ (H1 : Heap) (locs1 : List Loc), B H1 → va_S (k_A G) s.heap H1 locs1 → W p l e R s m args below meth c H1 locs1 cells slots Q (F0 m (pc + 3) ls (v :: rest))) : W p l e R s m args below meth c H locs cells slots Q (F0 m pc ls st) := by
  have hM' : k_Met l y bytes maxL ret rm G As P (some v) B rm.cells rm.slots := by rw [hc, hs]; exact hM
  exact w_cN X hS hM' hcode hini hl hst hd hR hP hsize hstack hcat hdg ⟨by rw [hc]; exact hf1, by rw [hs]; exact hf2⟩ (fun H1 locs1 h1 h2 => W.cs (by rw [hc]; rfl) (by rw [hs]; rfl) (kk H1 locs1 h1 h2))
/-! numbers that are places -/
theorem lw_iaddN {a b : Nat} (hexec : p.tables.exec = Jvm.exec) (hb : c.code = cc) (hdg : decode cc pc = .ok (.iadd, 1)) (k : W p l e R s m args below meth c H locs cells slots Q (F0 m (pc + 1) ls (.int (nI (a + b)) :: rest))) : W p l e R s m args below meth c H locs cells slots Q (F0 m pc ls (.int (nI b) :: .int (nI a) :: rest)) := by
  refine lv_iadd hexec hb hdg ?_
  rw [nI_add]; exact k
theorem lw_imulN {a b : Nat} (hexec : p.tables.exec = Jvm.exec) (hb : c.code = cc) (hdg : decode cc pc = .ok (.imul, 1)) (k : W p l e R s m args below meth c H locs cells slots Q (F0 m (pc + 1) ls (.int (nI (a * b)) :: rest))) : W p l e R s m args below meth c H locs cells slots Q (F0 m pc ls (.int (nI b) :: .int (nI a) :: rest)) := by
  refine lv_imul hexec hb hdg ?_
  rw [pk_mul]; exact k
theorem lw_isubN {a b : Nat} (hab : b ≤ a) (hexec : p.tables.exec = Jvm.exec) (hb : c.code = cc) (hdg : decode cc pc = .ok (.isub, 1)) (k : W p l e R s m args below meth c H locs cells slots Q (F0 m (pc + 1) ls (.int (nI (a - b)) :: rest))) : W p l e R s m args below meth c H locs cells slots Q (F0 m pc ls (.int (nI b) :: .int (nI a) :: rest)) := by
  refine lv_isub hexec hb hdg ?_
  rw [pk_sub hab]; exact k
theorem w_ialdN {i : Nat} (X : k_X p m c cc nL s args own G) (hW : Wd G ad nA nK I J H) (c0 j : Nat) (hj : j < k_n nA nK c0) {n : Nat} {f : Nat → Int32} (he : k_ent G ad c0 j (I c0 j) (J c0 j) = k_ar n (G.2.1 0) f) (hin : i < n ∧ n < 2 ^ 31) (hdg : decode cc pc = .ok (.iaload, 1))
    (kk : W p l e R s m args below meth c H locs cells slots Q (F0 m (pc + 1) ls (.int (f i) :: rest))) : W p l e R s m args below meth c H locs cells slots Q (F0 m pc ls (.int (nI i) :: .ref (ad c0 j) :: rest)) := by
  refine w_iald X hW c0 j hj he (vp_in_nI hin.1 hin.2) hdg ?_
  rw [nI_clamp (Nat.lt_trans hin.1 hin.2)]; exact kk
theorem w_zaldN {i : Nat} (X : k_X p m c cc nL s args own G) (hW : Wd G ad nA nK I J H) (c0 j : Nat) (hj : j < k_n nA nK c0) {n : Nat} {f : Nat → Int32} (he : k_ent G ad c0 j (I c0 j) (J c0 j) = k_ar n (G.2.1 2) f) (hin : i < n ∧ n < 2 ^ 31) (hdg : decode cc pc = .ok (.baload, 1))
    (kk : W p l e R s m args below meth c H locs cells slots Q (F0 m (pc + 1) ls (.int (f i) :: rest))) : W p l e R s m args below meth c H locs cells slots Q (F0 m pc ls (.int (nI i) :: .ref (ad c0 j) :: rest)) := by
  refine w_zald X hW c0 j hj he (vp_in_nI hin.1 hin.2) hdg ?_
  rw [nI_clamp (Nat.lt_trans hin.1 hin.2)]; exact kk
theorem w_laldN {i : Nat} (X : k_X p m c cc nL s args own G) (hW : Wd G ad nA nK I J H) (c0 j : Nat) (hj : j < k_n nA nK c0) {n : Nat} {f : Nat → Int64} (he : k_ent G ad c0 j (I c0 j) (J c0 j) = k_al n (G.2.1 1) f) (hin : i < n ∧ n < 2 ^ 31) (hdg : decode cc pc = .ok (.laload, 1))
    (kk : W p l e R s m args below meth c H locs cells slots Q (F0 m (pc + 1) ls (.long (f i) :: rest))) : W p l e R s m args below meth c H locs cells slots Q (F0 m pc ls (.int (nI i) :: .ref (ad c0 j) :: rest)) := by
  refine w_lald X hW c0 j hj he (vp_in_nI hin.1 hin.2) hdg ?_
  rw [nI_clamp (Nat.lt_trans hin.1 hin.2)]; exact kk
theorem w_iastN {i : Nat} (X : k_X p m c cc nL s args own G) (hW : Wd G ad nA nK I J H) (hS : va_S (k_A G) s.heap H locs) (c0 j : Nat) (hj : j < k_n nA nK c0) {n : Nat} {f : Nat → Int32} (he : k_ent G ad c0 j (I c0 j) (J c0 j) = k_ar n (G.2.1 0) f) {x : Int32} (hin : i < n ∧ n < 2 ^ 31) (he' : k_ent G ad c0 j (upd (I c0 j) i x) (J c0 j) = k_ar n (G.2.1 0) (upd f i x)) (hdg : decode cc pc = .ok (.iastore, 1))
    (kk : ∀ (H1 : Heap) (locs1 : List Loc), Wd G ad nA nK (k_up I c0 j (upd (I c0 j) i x)) J H1 → va_S (k_A G) s.heap H1 locs1 → W p l e R s m args below meth c H1 locs1 cells slots Q (F0 m (pc + 1) ls rest)) : W p l e R s m args below meth c H locs cells slots Q (F0 m pc ls (.int x :: .int (nI i) :: .ref (ad c0 j) :: rest)) := by
  have e := nI_clamp (Nat.lt_trans hin.1 hin.2)
  refine w_iast X hW hS c0 j hj he (vp_in_nI hin.1 hin.2) (by rw [e]; exact he') hdg (fun H1 locs1 h1 h2 => ?_)
  rw [e] at h1
  exact kk H1 locs1 h1 h2
theorem w_zastN {i : Nat} (X : k_X p m c cc nL s args own G) (hW : Wd G ad nA nK I J H) (hS : va_S (k_A G) s.heap H locs) (c0 j : Nat) (hj : j < k_n nA nK c0) {n : Nat} {f : Nat → Int32} (he : k_ent G ad c0 j (I c0 j) (J c0 j) = k_ar n (G.2.1 2) f) {x : Int32} (hx : vp_nar .boolean x = x) (hin : i < n ∧ n < 2 ^ 31) (he' : k_ent G ad c0 j (upd (I c0 j) i x) (J c0 j) = k_ar n (G.2.1 2) (upd f i x)) (hdg : decode cc pc = .ok (.bastore, 1))
    (kk : ∀ (H1 : Heap) (locs1 : List Loc), Wd G ad nA nK (k_up I c0 j (upd (I c0 j) i x)) J H1 → va_S (k_A G) s.heap H1 locs1 → W p l e R s m args below meth c H1 locs1 cells slots Q (F0 m (pc + 1) ls rest)) : W p l e R s m args below meth c H locs cells slots Q (F0 m pc ls (.int x :: .int (nI i) :: .ref (ad c0 j) :: rest)) := by
  have e := nI_clamp (Nat.lt_trans hin.1 hin.2)
  refine w_zast X hW hS c0 j hj he hx (vp_in_nI hin.1 hin.2) (by rw [e]; exact he') hdg (fun H1 locs1 h1 h2 => ?_)
  rw [e] at h1
  exact kk H1 locs1 h1 h2
theorem w_lastN {i : Nat} (X : k_X p m c cc nL s args own G) (hW : Wd G ad nA nK I J H) (hS : va_S (k_A G) s.heap H locs) (c0 j : Nat) (hj : j < k_n nA nK c0) {n : Nat} {f : Nat → Int64} (he : k_ent G ad c0 j (I c0 j) (J c0 j) = k_al n (G.2.1 1) f) {x : Int64} (hin : i < n ∧ n < 2 ^ 31) (he' : k_ent G ad c0 j (I c0 j) (vp_updL (J c0 j) i x) = k_al n (G.2.1 1) (vp_updL f i x)) (hdg : decode cc pc = .ok (.lastore, 1))
    (kk : ∀ (H1 : Heap) (locs1 : List Loc), Wd G ad nA nK I (k_up J c0 j (vp_updL (J c0 j) i x)) H1 → va_S (k_A G) s.heap H1 locs1 → W p l e R s m args below meth c H1 locs1 cells slots Q (F0 m (pc + 1) ls rest)) : W p l e R s m args below meth c H locs cells slots Q (F0 m pc ls (.long x :: .int (nI i) :: .ref (ad c0 j) :: rest)) := by
  have e := nI_clamp (Nat.lt_trans hin.1 hin.2)
  refine w_last X hW hS c0 j hj he (vp_in_nI hin.1 hin.2) (by rw [e]; exact he') hdg (fun H1 locs1 h1 h2 => ?_)
  rw [e] at h1
  exact kk H1 locs1 h1 h2
end KR
/-! loops as functions: n rounds from i on -/
def kLoop {α : Type} (step : Nat → α → α) : Nat → Nat → α → α
  | 0, _, a => a
  | d + 1, i, a => kLoop step d (i + 1) (step i a)
def kAny (q : Nat → Bool) : Nat → Nat → Bool
  | 0, _ => false
  | d + 1, i => q i || kAny q d (i + 1)
def kFind (q : Nat → Bool) : Nat → Nat → Option Nat
  | 0, _ => none
  | d + 1, i => if q i then some i else kFind q d (i + 1)
/-! what the keeper's own counts say -/
def k_S (nA nK : Nat) (I : k_I) : Prop := I 0 0 4 = nI nA ∧ I 0 0 5 = nI nK ∧ nA ≤ 24 ∧ nK ≤ 30 ∧ (∀ j, j < nA → I 6 0 j ≠ 0) ∧ ∀ j, j < nK → I 7 0 j ≠ 0
theorem k_S.up {nA nK : Nat} {I : k_I} (h : k_S nA nK I) (c i : Nat) (f : Nat → Int32) (hc : c ≠ 0 ∧ c ≠ 6 ∧ c ≠ 7) : k_S nA nK (k_up I c i f) := by
  obtain ⟨h1, h2, h3, h4, h5, h6⟩ := h
  refine ⟨?_, ?_, h3, h4, fun j hj => ?_, fun j hj => ?_⟩
  · simpa [k_up, Ne.symm hc.1] using h1
  · simpa [k_up, Ne.symm hc.1] using h2
  · simpa [k_up, Ne.symm hc.2.1] using h5 j hj
  · simpa [k_up, Ne.symm hc.2.2] using h6 j hj
theorem k_S.up0 {nA nK : Nat} {I : k_I} (h : k_S nA nK I) (k : Nat) (x : Int32) (h4' : k ≠ 4) (h5' : k ≠ 5) : k_S nA nK (k_up I 0 0 (upd (I 0 0) k x)) := by
  obtain ⟨h1, h2, h3, h4, h5, h6⟩ := h
  refine ⟨?_, ?_, h3, h4, fun j hj => ?_, fun j hj => ?_⟩
  · simpa [k_up, upd, Ne.symm h4'] using h1
  · simpa [k_up, upd, Ne.symm h5'] using h2
  · simpa [k_up] using h5 j hj
  · simpa [k_up] using h6 j hj
def kAns (n : Nat) (a : Int32) : Option Nat := if a < 0 then none else if nI n ≤ a then none else some a.toNatClampNeg
theorem kAns_b {n i : Nat} {a : Int32} (h : kAns n a = some i) : i < n := by
  unfold kAns at h
  split at h
  · cases h
  · split at h
    · cases h
    · next h0 h1 =>
      cases h
      rw [Int32.lt_iff_toInt_lt] at h0
      rw [Int32.le_iff_toInt_le] at h1
      have z : (0 : Int32).toInt = 0 := rfl
      have e : (a.toNatClampNeg : Int) = a.toInt := by
        unfold Int32.toNatClampNeg
        omega
      by_cases hn : n < 2 ^ 31
      · rw [nI_toInt hn] at h1
        omega
      · have := Int32.toInt_lt a
        omega
theorem kAns_lt {n a : Nat} (h : a < n) (hn : n < 2 ^ 31) : kAns n (nI a) = some a := by
  unfold kAns
  rw [if_neg (nI_pos (by omega)), if_neg (nI_ge h hn), nI_clamp (by omega)]
theorem hd_J13_bitCount_95d88 : yJ13_bitCount_95d88.cls ≠ "java/lang/invoke/MethodHandle" ∧ yJ13_bitCount_95d88.cls ≠ "java/lang/invoke/VarHandle" ∧ (parseMethodDescriptor yJ13_bitCount_95d88.desc).map (fun d => d.parameters.length) = some 1 := by decide +kernel
theorem hd_J6_bitCount_0f7a4 : yJ6_bitCount_0f7a4.cls ≠ "java/lang/invoke/MethodHandle" ∧ yJ6_bitCount_0f7a4.cls ≠ "java/lang/invoke/VarHandle" ∧ (parseMethodDescriptor yJ6_bitCount_0f7a4.desc).map (fun d => d.parameters.length) = some 1 := by decide +kernel
theorem hd_J9_max_7cf53 : yJ9_max_7cf53.cls ≠ "java/lang/invoke/MethodHandle" ∧ yJ9_max_7cf53.cls ≠ "java/lang/invoke/VarHandle" ∧ (parseMethodDescriptor yJ9_max_7cf53.desc).map (fun d => d.parameters.length) = some 2 := by decide +kernel
theorem hd_J9_min_7cf53 : yJ9_min_7cf53.cls ≠ "java/lang/invoke/MethodHandle" ∧ yJ9_min_7cf53.cls ≠ "java/lang/invoke/VarHandle" ∧ (parseMethodDescriptor yJ9_min_7cf53.desc).map (fun d => d.parameters.length) = some 2 := by decide +kernel
theorem hd_X0_clearGathered : yX0_clearGathered.cls ≠ "java/lang/invoke/MethodHandle" ∧ yX0_clearGathered.cls ≠ "java/lang/invoke/VarHandle" ∧ (parseMethodDescriptor yX0_clearGathered.desc).map (fun d => d.parameters.length) = some 0 := by decide +kernel
theorem hd_X0_gather : yX0_gather.cls ≠ "java/lang/invoke/MethodHandle" ∧ yX0_gather.cls ≠ "java/lang/invoke/VarHandle" ∧ (parseMethodDescriptor yX0_gather.desc).map (fun d => d.parameters.length) = some 1 := by decide +kernel
theorem hd_X0_hasValue : yX0_hasValue.cls ≠ "java/lang/invoke/MethodHandle" ∧ yX0_hasValue.cls ≠ "java/lang/invoke/VarHandle" ∧ (parseMethodDescriptor yX0_hasValue.desc).map (fun d => d.parameters.length) = some 2 := by decide +kernel
theorem hd_X0_init : yX0_init.cls ≠ "java/lang/invoke/MethodHandle" ∧ yX0_init.cls ≠ "java/lang/invoke/VarHandle" ∧ (parseMethodDescriptor yX0_init.desc).map (fun d => d.parameters.length) = some 3 := by decide +kernel
theorem hd_X0_isDoubted : yX0_isDoubted.cls ≠ "java/lang/invoke/MethodHandle" ∧ yX0_isDoubted.cls ≠ "java/lang/invoke/VarHandle" ∧ (parseMethodDescriptor yX0_isDoubted.desc).map (fun d => d.parameters.length) = some 0 := by decide +kernel
theorem hd_X0_isMoved : yX0_isMoved.cls ≠ "java/lang/invoke/MethodHandle" ∧ yX0_isMoved.cls ≠ "java/lang/invoke/VarHandle" ∧ (parseMethodDescriptor yX0_isMoved.desc).map (fun d => d.parameters.length) = some 0 := by decide +kernel
theorem hd_X0_kindNow : yX0_kindNow.cls ≠ "java/lang/invoke/MethodHandle" ∧ yX0_kindNow.cls ≠ "java/lang/invoke/VarHandle" ∧ (parseMethodDescriptor yX0_kindNow.desc).map (fun d => d.parameters.length) = some 0 := by decide +kernel
theorem hd_X0_partAt : yX0_partAt.cls ≠ "java/lang/invoke/MethodHandle" ∧ yX0_partAt.cls ≠ "java/lang/invoke/VarHandle" ∧ (parseMethodDescriptor yX0_partAt.desc).map (fun d => d.parameters.length) = some 1 := by decide +kernel
theorem hd_X0_partCount : yX0_partCount.cls ≠ "java/lang/invoke/MethodHandle" ∧ yX0_partCount.cls ≠ "java/lang/invoke/VarHandle" ∧ (parseMethodDescriptor yX0_partCount.desc).map (fun d => d.parameters.length) = some 0 := by decide +kernel
theorem hd_X0_putParts : yX0_putParts.cls ≠ "java/lang/invoke/MethodHandle" ∧ yX0_putParts.cls ≠ "java/lang/invoke/VarHandle" ∧ (parseMethodDescriptor yX0_putParts.desc).map (fun d => d.parameters.length) = some 4 := by decide +kernel
theorem hd_X0_putSets : yX0_putSets.cls ≠ "java/lang/invoke/MethodHandle" ∧ yX0_putSets.cls ≠ "java/lang/invoke/VarHandle" ∧ (parseMethodDescriptor yX0_putSets.desc).map (fun d => d.parameters.length) = some 3 := by decide +kernel
theorem hd_X0_setOf : yX0_setOf.cls ≠ "java/lang/invoke/MethodHandle" ∧ yX0_setOf.cls ≠ "java/lang/invoke/VarHandle" ∧ (parseMethodDescriptor yX0_setOf.desc).map (fun d => d.parameters.length) = some 1 := by decide +kernel
theorem hd_X0_takeAllOf : yX0_takeAllOf.cls ≠ "java/lang/invoke/MethodHandle" ∧ yX0_takeAllOf.cls ≠ "java/lang/invoke/VarHandle" ∧ (parseMethodDescriptor yX0_takeAllOf.desc).map (fun d => d.parameters.length) = some 1 := by decide +kernel
theorem hd_X1_init : yX1_init.cls ≠ "java/lang/invoke/MethodHandle" ∧ yX1_init.cls ≠ "java/lang/invoke/VarHandle" ∧ (parseMethodDescriptor yX1_init.desc).map (fun d => d.parameters.length) = some 4 := by decide +kernel
theorem hd_X1_valueFor : yX1_valueFor.cls ≠ "java/lang/invoke/MethodHandle" ∧ yX1_valueFor.cls ≠ "java/lang/invoke/VarHandle" ∧ (parseMethodDescriptor yX1_valueFor.desc).map (fun d => d.parameters.length) = some 1 := by decide +kernel
theorem hd_X2_foldOf : yX2_foldOf.cls ≠ "java/lang/invoke/MethodHandle" ∧ yX2_foldOf.cls ≠ "java/lang/invoke/VarHandle" ∧ (parseMethodDescriptor yX2_foldOf.desc).map (fun d => d.parameters.length) = some 1 := by decide +kernel
theorem hd_X2_folded : yX2_folded.cls ≠ "java/lang/invoke/MethodHandle" ∧ yX2_folded.cls ≠ "java/lang/invoke/VarHandle" ∧ (parseMethodDescriptor yX2_folded.desc).map (fun d => d.parameters.length) = some 1 := by decide +kernel
theorem hd_X2_init : yX2_init.cls ≠ "java/lang/invoke/MethodHandle" ∧ yX2_init.cls ≠ "java/lang/invoke/VarHandle" ∧ (parseMethodDescriptor yX2_init.desc).map (fun d => d.parameters.length) = some 0 := by decide +kernel
theorem hd_X2_turn : yX2_turn.cls ≠ "java/lang/invoke/MethodHandle" ∧ yX2_turn.cls ≠ "java/lang/invoke/VarHandle" ∧ (parseMethodDescriptor yX2_turn.desc).map (fun d => d.parameters.length) = some 2 := by decide +kernel
theorem hd_X3_change : yX3_change.cls ≠ "java/lang/invoke/MethodHandle" ∧ yX3_change.cls ≠ "java/lang/invoke/VarHandle" ∧ (parseMethodDescriptor yX3_change.desc).map (fun d => d.parameters.length) = some 1 := by decide +kernel
theorem hd_X3_init : yX3_init.cls ≠ "java/lang/invoke/MethodHandle" ∧ yX3_init.cls ≠ "java/lang/invoke/VarHandle" ∧ (parseMethodDescriptor yX3_init.desc).map (fun d => d.parameters.length) = some 0 := by decide +kernel
theorem hd_X3_isChangedSince : yX3_isChangedSince.cls ≠ "java/lang/invoke/MethodHandle" ∧ yX3_isChangedSince.cls ≠ "java/lang/invoke/VarHandle" ∧ (parseMethodDescriptor yX3_isChangedSince.desc).map (fun d => d.parameters.length) = some 2 := by decide +kernel
theorem hd_X3_now : yX3_now.cls ≠ "java/lang/invoke/MethodHandle" ∧ yX3_now.cls ≠ "java/lang/invoke/VarHandle" ∧ (parseMethodDescriptor yX3_now.desc).map (fun d => d.parameters.length) = some 0 := by decide +kernel
theorem hd_X4_allValues : yX4_allValues.cls ≠ "java/lang/invoke/MethodHandle" ∧ yX4_allValues.cls ≠ "java/lang/invoke/VarHandle" ∧ (parseMethodDescriptor yX4_allValues.desc).map (fun d => d.parameters.length) = some 1 := by decide +kernel
theorem hd_X4_answer : yX4_answer.cls ≠ "java/lang/invoke/MethodHandle" ∧ yX4_answer.cls ≠ "java/lang/invoke/VarHandle" ∧ (parseMethodDescriptor yX4_answer.desc).map (fun d => d.parameters.length) = some 5 := by decide +kernel
theorem hd_X4_answerAt : yX4_answerAt.cls ≠ "java/lang/invoke/MethodHandle" ∧ yX4_answerAt.cls ≠ "java/lang/invoke/VarHandle" ∧ (parseMethodDescriptor yX4_answerAt.desc).map (fun d => d.parameters.length) = some 1 := by decide +kernel
theorem hd_X4_areAllPlain : yX4_areAllPlain.cls ≠ "java/lang/invoke/MethodHandle" ∧ yX4_areAllPlain.cls ≠ "java/lang/invoke/VarHandle" ∧ (parseMethodDescriptor yX4_areAllPlain.desc).map (fun d => d.parameters.length) = some 1 := by decide +kernel
theorem hd_X4_areQuarrelling : yX4_areQuarrelling.cls ≠ "java/lang/invoke/MethodHandle" ∧ yX4_areQuarrelling.cls ≠ "java/lang/invoke/VarHandle" ∧ (parseMethodDescriptor yX4_areQuarrelling.desc).map (fun d => d.parameters.length) = some 2 := by decide +kernel
theorem hd_X4_ask : yX4_ask.cls ≠ "java/lang/invoke/MethodHandle" ∧ yX4_ask.cls ≠ "java/lang/invoke/VarHandle" ∧ (parseMethodDescriptor yX4_ask.desc).map (fun d => d.parameters.length) = some 4 := by decide +kernel
theorem hd_X4_askAt : yX4_askAt.cls ≠ "java/lang/invoke/MethodHandle" ∧ yX4_askAt.cls ≠ "java/lang/invoke/VarHandle" ∧ (parseMethodDescriptor yX4_askAt.desc).map (fun d => d.parameters.length) = some 1 := by decide +kernel
theorem hd_X4_asked : yX4_asked.cls ≠ "java/lang/invoke/MethodHandle" ∧ yX4_asked.cls ≠ "java/lang/invoke/VarHandle" ∧ (parseMethodDescriptor yX4_asked.desc).map (fun d => d.parameters.length) = some 2 := by decide +kernel
theorem hd_X4_asksInVain : yX4_asksInVain.cls ≠ "java/lang/invoke/MethodHandle" ∧ yX4_asksInVain.cls ≠ "java/lang/invoke/VarHandle" ∧ (parseMethodDescriptor yX4_asksInVain.desc).map (fun d => d.parameters.length) = some 0 := by decide +kernel
theorem hd_X4_betterCount : yX4_betterCount.cls ≠ "java/lang/invoke/MethodHandle" ∧ yX4_betterCount.cls ≠ "java/lang/invoke/VarHandle" ∧ (parseMethodDescriptor yX4_betterCount.desc).map (fun d => d.parameters.length) = some 2 := by decide +kernel
theorem hd_X4_bind : yX4_bind.cls ≠ "java/lang/invoke/MethodHandle" ∧ yX4_bind.cls ≠ "java/lang/invoke/VarHandle" ∧ (parseMethodDescriptor yX4_bind.desc).map (fun d => d.parameters.length) = some 2 := by decide +kernel
theorem hd_X4_bit : yX4_bit.cls ≠ "java/lang/invoke/MethodHandle" ∧ yX4_bit.cls ≠ "java/lang/invoke/VarHandle" ∧ (parseMethodDescriptor yX4_bit.desc).map (fun d => d.parameters.length) = some 1 := by decide +kernel
theorem hd_X4_changed : yX4_changed.cls ≠ "java/lang/invoke/MethodHandle" ∧ yX4_changed.cls ≠ "java/lang/invoke/VarHandle" ∧ (parseMethodDescriptor yX4_changed.desc).map (fun d => d.parameters.length) = some 1 := by decide +kernel
theorem hd_X4_confirm : yX4_confirm.cls ≠ "java/lang/invoke/MethodHandle" ∧ yX4_confirm.cls ≠ "java/lang/invoke/VarHandle" ∧ (parseMethodDescriptor yX4_confirm.desc).map (fun d => d.parameters.length) = some 1 := by decide +kernel
theorem hd_X4_cost : yX4_cost.cls ≠ "java/lang/invoke/MethodHandle" ∧ yX4_cost.cls ≠ "java/lang/invoke/VarHandle" ∧ (parseMethodDescriptor yX4_cost.desc).map (fun d => d.parameters.length) = some 2 := by decide +kernel
theorem hd_X4_costOf : yX4_costOf.cls ≠ "java/lang/invoke/MethodHandle" ∧ yX4_costOf.cls ≠ "java/lang/invoke/VarHandle" ∧ (parseMethodDescriptor yX4_costOf.desc).map (fun d => d.parameters.length) = some 3 := by decide +kernel
theorem hd_X4_count : yX4_count.cls ≠ "java/lang/invoke/MethodHandle" ∧ yX4_count.cls ≠ "java/lang/invoke/VarHandle" ∧ (parseMethodDescriptor yX4_count.desc).map (fun d => d.parameters.length) = some 1 := by decide +kernel
theorem hd_X4_doubtedCount : yX4_doubtedCount.cls ≠ "java/lang/invoke/MethodHandle" ∧ yX4_doubtedCount.cls ≠ "java/lang/invoke/VarHandle" ∧ (parseMethodDescriptor yX4_doubtedCount.desc).map (fun d => d.parameters.length) = some 0 := by decide +kernel
theorem hd_X4_endOf : yX4_endOf.cls ≠ "java/lang/invoke/MethodHandle" ∧ yX4_endOf.cls ≠ "java/lang/invoke/VarHandle" ∧ (parseMethodDescriptor yX4_endOf.desc).map (fun d => d.parameters.length) = some 1 := by decide +kernel
theorem hd_X4_far : yX4_far.cls ≠ "java/lang/invoke/MethodHandle" ∧ yX4_far.cls ≠ "java/lang/invoke/VarHandle" ∧ (parseMethodDescriptor yX4_far.desc).map (fun d => d.parameters.length) = some 2 := by decide +kernel
theorem hd_X4_findsSome : yX4_findsSome.cls ≠ "java/lang/invoke/MethodHandle" ∧ yX4_findsSome.cls ≠ "java/lang/invoke/VarHandle" ∧ (parseMethodDescriptor yX4_findsSome.desc).map (fun d => d.parameters.length) = some 2 := by decide +kernel
theorem hd_X4_fold : yX4_fold.cls ≠ "java/lang/invoke/MethodHandle" ∧ yX4_fold.cls ≠ "java/lang/invoke/VarHandle" ∧ (parseMethodDescriptor yX4_fold.desc).map (fun d => d.parameters.length) = some 2 := by decide +kernel
theorem hd_X4_found : yX4_found.cls ≠ "java/lang/invoke/MethodHandle" ∧ yX4_found.cls ≠ "java/lang/invoke/VarHandle" ∧ (parseMethodDescriptor yX4_found.desc).map (fun d => d.parameters.length) = some 3 := by decide +kernel
theorem hd_X4_foundAt : yX4_foundAt.cls ≠ "java/lang/invoke/MethodHandle" ∧ yX4_foundAt.cls ≠ "java/lang/invoke/VarHandle" ∧ (parseMethodDescriptor yX4_foundAt.desc).map (fun d => d.parameters.length) = some 2 := by decide +kernel
theorem hd_X4_foundCount : yX4_foundCount.cls ≠ "java/lang/invoke/MethodHandle" ∧ yX4_foundCount.cls ≠ "java/lang/invoke/VarHandle" ∧ (parseMethodDescriptor yX4_foundCount.desc).map (fun d => d.parameters.length) = some 1 := by decide +kernel
theorem hd_X4_heapCount : yX4_heapCount.cls ≠ "java/lang/invoke/MethodHandle" ∧ yX4_heapCount.cls ≠ "java/lang/invoke/VarHandle" ∧ (parseMethodDescriptor yX4_heapCount.desc).map (fun d => d.parameters.length) = some 1 := by decide +kernel
theorem hd_X4_heapFrom : yX4_heapFrom.cls ≠ "java/lang/invoke/MethodHandle" ∧ yX4_heapFrom.cls ≠ "java/lang/invoke/VarHandle" ∧ (parseMethodDescriptor yX4_heapFrom.desc).map (fun d => d.parameters.length) = some 2 := by decide +kernel
theorem hd_X4_heapOf : yX4_heapOf.cls ≠ "java/lang/invoke/MethodHandle" ∧ yX4_heapOf.cls ≠ "java/lang/invoke/VarHandle" ∧ (parseMethodDescriptor yX4_heapOf.desc).map (fun d => d.parameters.length) = some 2 := by decide +kernel
theorem hd_X4_helpFor : yX4_helpFor.cls ≠ "java/lang/invoke/MethodHandle" ∧ yX4_helpFor.cls ≠ "java/lang/invoke/VarHandle" ∧ (parseMethodDescriptor yX4_helpFor.desc).map (fun d => d.parameters.length) = some 1 := by decide +kernel
theorem hd_X4_holds : yX4_holds.cls ≠ "java/lang/invoke/MethodHandle" ∧ yX4_holds.cls ≠ "java/lang/invoke/VarHandle" ∧ (parseMethodDescriptor yX4_holds.desc).map (fun d => d.parameters.length) = some 4 := by decide +kernel
theorem hd_X4_init : yX4_init.cls ≠ "java/lang/invoke/MethodHandle" ∧ yX4_init.cls ≠ "java/lang/invoke/VarHandle" ∧ (parseMethodDescriptor yX4_init.desc).map (fun d => d.parameters.length) = some 0 := by decide +kernel
theorem hd_X4_isAnswer : yX4_isAnswer.cls ≠ "java/lang/invoke/MethodHandle" ∧ yX4_isAnswer.cls ≠ "java/lang/invoke/VarHandle" ∧ (parseMethodDescriptor yX4_isAnswer.desc).map (fun d => d.parameters.length) = some 1 := by decide +kernel
theorem hd_X4_isFit : yX4_isFit.cls ≠ "java/lang/invoke/MethodHandle" ∧ yX4_isFit.cls ≠ "java/lang/invoke/VarHandle" ∧ (parseMethodDescriptor yX4_isFit.desc).map (fun d => d.parameters.length) = some 2 := by decide +kernel
theorem hd_X4_isFound : yX4_isFound.cls ≠ "java/lang/invoke/MethodHandle" ∧ yX4_isFound.cls ≠ "java/lang/invoke/VarHandle" ∧ (parseMethodDescriptor yX4_isFound.desc).map (fun d => d.parameters.length) = some 3 := by decide +kernel
theorem hd_X4_isInside : yX4_isInside.cls ≠ "java/lang/invoke/MethodHandle" ∧ yX4_isInside.cls ≠ "java/lang/invoke/VarHandle" ∧ (parseMethodDescriptor yX4_isInside.desc).map (fun d => d.parameters.length) = some 2 := by decide +kernel
theorem hd_X4_isNearOne : yX4_isNearOne.cls ≠ "java/lang/invoke/MethodHandle" ∧ yX4_isNearOne.cls ≠ "java/lang/invoke/VarHandle" ∧ (parseMethodDescriptor yX4_isNearOne.desc).map (fun d => d.parameters.length) = some 2 := by decide +kernel
theorem hd_X4_isSetOfValues : yX4_isSetOfValues.cls ≠ "java/lang/invoke/MethodHandle" ∧ yX4_isSetOfValues.cls ≠ "java/lang/invoke/VarHandle" ∧ (parseMethodDescriptor yX4_isSetOfValues.desc).map (fun d => d.parameters.length) = some 2 := by decide +kernel
theorem hd_X4_isSetOfWords : yX4_isSetOfWords.cls ≠ "java/lang/invoke/MethodHandle" ∧ yX4_isSetOfWords.cls ≠ "java/lang/invoke/VarHandle" ∧ (parseMethodDescriptor yX4_isSetOfWords.desc).map (fun d => d.parameters.length) = some 1 := by decide +kernel
theorem hd_X4_isValue : yX4_isValue.cls ≠ "java/lang/invoke/MethodHandle" ∧ yX4_isValue.cls ≠ "java/lang/invoke/VarHandle" ∧ (parseMethodDescriptor yX4_isValue.desc).map (fun d => d.parameters.length) = some 2 := by decide +kernel
theorem hd_X4_isValueOrNone : yX4_isValueOrNone.cls ≠ "java/lang/invoke/MethodHandle" ∧ yX4_isValueOrNone.cls ≠ "java/lang/invoke/VarHandle" ∧ (parseMethodDescriptor yX4_isValueOrNone.desc).map (fun d => d.parameters.length) = some 2 := by decide +kernel
theorem hd_X4_isWord : yX4_isWord.cls ≠ "java/lang/invoke/MethodHandle" ∧ yX4_isWord.cls ≠ "java/lang/invoke/VarHandle" ∧ (parseMethodDescriptor yX4_isWord.desc).map (fun d => d.parameters.length) = some 1 := by decide +kernel
theorem hd_X4_join : yX4_join.cls ≠ "java/lang/invoke/MethodHandle" ∧ yX4_join.cls ≠ "java/lang/invoke/VarHandle" ∧ (parseMethodDescriptor yX4_join.desc).map (fun d => d.parameters.length) = some 4 := by decide +kernel
theorem hd_X4_keep : yX4_keep.cls ≠ "java/lang/invoke/MethodHandle" ∧ yX4_keep.cls ≠ "java/lang/invoke/VarHandle" ∧ (parseMethodDescriptor yX4_keep.desc).map (fun d => d.parameters.length) = some 1 := by decide +kernel
theorem hd_X4_kindCount : yX4_kindCount.cls ≠ "java/lang/invoke/MethodHandle" ∧ yX4_kindCount.cls ≠ "java/lang/invoke/VarHandle" ∧ (parseMethodDescriptor yX4_kindCount.desc).map (fun d => d.parameters.length) = some 1 := by decide +kernel
theorem hd_X4_leadOn : yX4_leadOn.cls ≠ "java/lang/invoke/MethodHandle" ∧ yX4_leadOn.cls ≠ "java/lang/invoke/VarHandle" ∧ (parseMethodDescriptor yX4_leadOn.desc).map (fun d => d.parameters.length) = some 2 := by decide +kernel
theorem hd_X4_least : yX4_least.cls ≠ "java/lang/invoke/MethodHandle" ∧ yX4_least.cls ≠ "java/lang/invoke/VarHandle" ∧ (parseMethodDescriptor yX4_least.desc).map (fun d => d.parameters.length) = some 1 := by decide +kernel
theorem hd_X4_likeSets : yX4_likeSets.cls ≠ "java/lang/invoke/MethodHandle" ∧ yX4_likeSets.cls ≠ "java/lang/invoke/VarHandle" ∧ (parseMethodDescriptor yX4_likeSets.desc).map (fun d => d.parameters.length) = some 2 := by decide +kernel
theorem hd_X4_mayMelt : yX4_mayMelt.cls ≠ "java/lang/invoke/MethodHandle" ∧ yX4_mayMelt.cls ≠ "java/lang/invoke/VarHandle" ∧ (parseMethodDescriptor yX4_mayMelt.desc).map (fun d => d.parameters.length) = some 2 := by decide +kernel
theorem hd_X4_melt : yX4_melt.cls ≠ "java/lang/invoke/MethodHandle" ∧ yX4_melt.cls ≠ "java/lang/invoke/VarHandle" ∧ (parseMethodDescriptor yX4_melt.desc).map (fun d => d.parameters.length) = some 2 := by decide +kernel
theorem hd_X4_move : yX4_move.cls ≠ "java/lang/invoke/MethodHandle" ∧ yX4_move.cls ≠ "java/lang/invoke/VarHandle" ∧ (parseMethodDescriptor yX4_move.desc).map (fun d => d.parameters.length) = some 2 := by decide +kernel
theorem hd_X4_partNow : yX4_partNow.cls ≠ "java/lang/invoke/MethodHandle" ∧ yX4_partNow.cls ≠ "java/lang/invoke/VarHandle" ∧ (parseMethodDescriptor yX4_partNow.desc).map (fun d => d.parameters.length) = some 2 := by decide +kernel
theorem hd_X4_quarrel : yX4_quarrel.cls ≠ "java/lang/invoke/MethodHandle" ∧ yX4_quarrel.cls ≠ "java/lang/invoke/VarHandle" ∧ (parseMethodDescriptor yX4_quarrel.desc).map (fun d => d.parameters.length) = some 2 := by decide +kernel
theorem hd_X4_quarrelCount : yX4_quarrelCount.cls ≠ "java/lang/invoke/MethodHandle" ∧ yX4_quarrelCount.cls ≠ "java/lang/invoke/VarHandle" ∧ (parseMethodDescriptor yX4_quarrelCount.desc).map (fun d => d.parameters.length) = some 0 := by decide +kernel
theorem hd_X4_quarrelPart : yX4_quarrelPart.cls ≠ "java/lang/invoke/MethodHandle" ∧ yX4_quarrelPart.cls ≠ "java/lang/invoke/VarHandle" ∧ (parseMethodDescriptor yX4_quarrelPart.desc).map (fun d => d.parameters.length) = some 3 := by decide +kernel
theorem hd_X4_questionOf : yX4_questionOf.cls ≠ "java/lang/invoke/MethodHandle" ∧ yX4_questionOf.cls ≠ "java/lang/invoke/VarHandle" ∧ (parseMethodDescriptor yX4_questionOf.desc).map (fun d => d.parameters.length) = some 2 := by decide +kernel
theorem hd_X4_rule : yX4_rule.cls ≠ "java/lang/invoke/MethodHandle" ∧ yX4_rule.cls ≠ "java/lang/invoke/VarHandle" ∧ (parseMethodDescriptor yX4_rule.desc).map (fun d => d.parameters.length) = some 2 := by decide +kernel
theorem hd_X4_settle : yX4_settle.cls ≠ "java/lang/invoke/MethodHandle" ∧ yX4_settle.cls ≠ "java/lang/invoke/VarHandle" ∧ (parseMethodDescriptor yX4_settle.desc).map (fun d => d.parameters.length) = some 0 := by decide +kernel
theorem hd_X4_settleJoined : yX4_settleJoined.cls ≠ "java/lang/invoke/MethodHandle" ∧ yX4_settleJoined.cls ≠ "java/lang/invoke/VarHandle" ∧ (parseMethodDescriptor yX4_settleJoined.desc).map (fun d => d.parameters.length) = some 1 := by decide +kernel
theorem hd_X4_settlePlain : yX4_settlePlain.cls ≠ "java/lang/invoke/MethodHandle" ∧ yX4_settlePlain.cls ≠ "java/lang/invoke/VarHandle" ∧ (parseMethodDescriptor yX4_settlePlain.desc).map (fun d => d.parameters.length) = some 1 := by decide +kernel
theorem hd_X4_settleUnder : yX4_settleUnder.cls ≠ "java/lang/invoke/MethodHandle" ∧ yX4_settleUnder.cls ≠ "java/lang/invoke/VarHandle" ∧ (parseMethodDescriptor yX4_settleUnder.desc).map (fun d => d.parameters.length) = some 0 := by decide +kernel
theorem hd_X4_told : yX4_told.cls ≠ "java/lang/invoke/MethodHandle" ∧ yX4_told.cls ≠ "java/lang/invoke/VarHandle" ∧ (parseMethodDescriptor yX4_told.desc).map (fun d => d.parameters.length) = some 2 := by decide +kernel
theorem hd_X4_vote : yX4_vote.cls ≠ "java/lang/invoke/MethodHandle" ∧ yX4_vote.cls ≠ "java/lang/invoke/VarHandle" ∧ (parseMethodDescriptor yX4_vote.desc).map (fun d => d.parameters.length) = some 2 := by decide +kernel
theorem hd_X4_widenUnder : yX4_widenUnder.cls ≠ "java/lang/invoke/MethodHandle" ∧ yX4_widenUnder.cls ≠ "java/lang/invoke/VarHandle" ∧ (parseMethodDescriptor yX4_widenUnder.desc).map (fun d => d.parameters.length) = some 1 := by decide +kernel
theorem hd_X4_within : yX4_within.cls ≠ "java/lang/invoke/MethodHandle" ∧ yX4_within.cls ≠ "java/lang/invoke/VarHandle" ∧ (parseMethodDescriptor yX4_within.desc).map (fun d => d.parameters.length) = some 3 := by decide +kernel
theorem hd_X4_words : yX4_words.cls ≠ "java/lang/invoke/MethodHandle" ∧ yX4_words.cls ≠ "java/lang/invoke/VarHandle" ∧ (parseMethodDescriptor yX4_words.desc).map (fun d => d.parameters.length) = some 1 := by decide +kernel
theorem hd_X5_allOf : yX5_allOf.cls ≠ "java/lang/invoke/MethodHandle" ∧ yX5_allOf.cls ≠ "java/lang/invoke/VarHandle" ∧ (parseMethodDescriptor yX5_allOf.desc).map (fun d => d.parameters.length) = some 1 := by decide +kernel
theorem hd_X5_answer : yX5_answer.cls ≠ "java/lang/invoke/MethodHandle" ∧ yX5_answer.cls ≠ "java/lang/invoke/VarHandle" ∧ (parseMethodDescriptor yX5_answer.desc).map (fun d => d.parameters.length) = some 5 := by decide +kernel
theorem hd_X5_ask : yX5_ask.cls ≠ "java/lang/invoke/MethodHandle" ∧ yX5_ask.cls ≠ "java/lang/invoke/VarHandle" ∧ (parseMethodDescriptor yX5_ask.desc).map (fun d => d.parameters.length) = some 4 := by decide +kernel
theorem hd_X5_asked : yX5_asked.cls ≠ "java/lang/invoke/MethodHandle" ∧ yX5_asked.cls ≠ "java/lang/invoke/VarHandle" ∧ (parseMethodDescriptor yX5_asked.desc).map (fun d => d.parameters.length) = some 2 := by decide +kernel
theorem hd_X5_bind : yX5_bind.cls ≠ "java/lang/invoke/MethodHandle" ∧ yX5_bind.cls ≠ "java/lang/invoke/VarHandle" ∧ (parseMethodDescriptor yX5_bind.desc).map (fun d => d.parameters.length) = some 2 := by decide +kernel
theorem hd_X5_changed : yX5_changed.cls ≠ "java/lang/invoke/MethodHandle" ∧ yX5_changed.cls ≠ "java/lang/invoke/VarHandle" ∧ (parseMethodDescriptor yX5_changed.desc).map (fun d => d.parameters.length) = some 1 := by decide +kernel
theorem hd_X5_confirm : yX5_confirm.cls ≠ "java/lang/invoke/MethodHandle" ∧ yX5_confirm.cls ≠ "java/lang/invoke/VarHandle" ∧ (parseMethodDescriptor yX5_confirm.desc).map (fun d => d.parameters.length) = some 1 := by decide +kernel
theorem hd_X5_cost : yX5_cost.cls ≠ "java/lang/invoke/MethodHandle" ∧ yX5_cost.cls ≠ "java/lang/invoke/VarHandle" ∧ (parseMethodDescriptor yX5_cost.desc).map (fun d => d.parameters.length) = some 2 := by decide +kernel
theorem hd_X5_costWith : yX5_costWith.cls ≠ "java/lang/invoke/MethodHandle" ∧ yX5_costWith.cls ≠ "java/lang/invoke/VarHandle" ∧ (parseMethodDescriptor yX5_costWith.desc).map (fun d => d.parameters.length) = some 3 := by decide +kernel
theorem hd_X5_count : yX5_count.cls ≠ "java/lang/invoke/MethodHandle" ∧ yX5_count.cls ≠ "java/lang/invoke/VarHandle" ∧ (parseMethodDescriptor yX5_count.desc).map (fun d => d.parameters.length) = some 1 := by decide +kernel
theorem hd_X5_counted : yX5_counted.cls ≠ "java/lang/invoke/MethodHandle" ∧ yX5_counted.cls ≠ "java/lang/invoke/VarHandle" ∧ (parseMethodDescriptor yX5_counted.desc).map (fun d => d.parameters.length) = some 2 := by decide +kernel
theorem hd_X5_endOf : yX5_endOf.cls ≠ "java/lang/invoke/MethodHandle" ∧ yX5_endOf.cls ≠ "java/lang/invoke/VarHandle" ∧ (parseMethodDescriptor yX5_endOf.desc).map (fun d => d.parameters.length) = some 1 := by decide +kernel
theorem hd_X5_far : yX5_far.cls ≠ "java/lang/invoke/MethodHandle" ∧ yX5_far.cls ≠ "java/lang/invoke/VarHandle" ∧ (parseMethodDescriptor yX5_far.desc).map (fun d => d.parameters.length) = some 2 := by decide +kernel
theorem hd_X5_findHeaps : yX5_findHeaps.cls ≠ "java/lang/invoke/MethodHandle" ∧ yX5_findHeaps.cls ≠ "java/lang/invoke/VarHandle" ∧ (parseMethodDescriptor yX5_findHeaps.desc).map (fun d => d.parameters.length) = some 0 := by decide +kernel
theorem hd_X5_findsWith : yX5_findsWith.cls ≠ "java/lang/invoke/MethodHandle" ∧ yX5_findsWith.cls ≠ "java/lang/invoke/VarHandle" ∧ (parseMethodDescriptor yX5_findsWith.desc).map (fun d => d.parameters.length) = some 2 := by decide +kernel
theorem hd_X5_fold : yX5_fold.cls ≠ "java/lang/invoke/MethodHandle" ∧ yX5_fold.cls ≠ "java/lang/invoke/VarHandle" ∧ (parseMethodDescriptor yX5_fold.desc).map (fun d => d.parameters.length) = some 2 := by decide +kernel
theorem hd_X5_folded : yX5_folded.cls ≠ "java/lang/invoke/MethodHandle" ∧ yX5_folded.cls ≠ "java/lang/invoke/VarHandle" ∧ (parseMethodDescriptor yX5_folded.desc).map (fun d => d.parameters.length) = some 1 := by decide +kernel
theorem hd_X5_found : yX5_found.cls ≠ "java/lang/invoke/MethodHandle" ∧ yX5_found.cls ≠ "java/lang/invoke/VarHandle" ∧ (parseMethodDescriptor yX5_found.desc).map (fun d => d.parameters.length) = some 3 := by decide +kernel
theorem hd_X5_fresh : yX5_fresh.cls ≠ "java/lang/invoke/MethodHandle" ∧ yX5_fresh.cls ≠ "java/lang/invoke/VarHandle" ∧ (parseMethodDescriptor yX5_fresh.desc).map (fun d => d.parameters.length) = some 1 := by decide +kernel
theorem hd_X5_hasPart : yX5_hasPart.cls ≠ "java/lang/invoke/MethodHandle" ∧ yX5_hasPart.cls ≠ "java/lang/invoke/VarHandle" ∧ (parseMethodDescriptor yX5_hasPart.desc).map (fun d => d.parameters.length) = some 2 := by decide +kernel
theorem hd_X5_heapOf : yX5_heapOf.cls ≠ "java/lang/invoke/MethodHandle" ∧ yX5_heapOf.cls ≠ "java/lang/invoke/VarHandle" ∧ (parseMethodDescriptor yX5_heapOf.desc).map (fun d => d.parameters.length) = some 1 := by decide +kernel
theorem hd_X5_helpOf : yX5_helpOf.cls ≠ "java/lang/invoke/MethodHandle" ∧ yX5_helpOf.cls ≠ "java/lang/invoke/VarHandle" ∧ (parseMethodDescriptor yX5_helpOf.desc).map (fun d => d.parameters.length) = some 1 := by decide +kernel
theorem hd_X5_holds : yX5_holds.cls ≠ "java/lang/invoke/MethodHandle" ∧ yX5_holds.cls ≠ "java/lang/invoke/VarHandle" ∧ (parseMethodDescriptor yX5_holds.desc).map (fun d => d.parameters.length) = some 4 := by decide +kernel
theorem hd_X5_in : yX5_in.cls ≠ "java/lang/invoke/MethodHandle" ∧ yX5_in.cls ≠ "java/lang/invoke/VarHandle" ∧ (parseMethodDescriptor yX5_in.desc).map (fun d => d.parameters.length) = some 3 := by decide +kernel
theorem hd_X5_init : yX5_init.cls ≠ "java/lang/invoke/MethodHandle" ∧ yX5_init.cls ≠ "java/lang/invoke/VarHandle" ∧ (parseMethodDescriptor yX5_init.desc).map (fun d => d.parameters.length) = some 0 := by decide +kernel
theorem hd_X5_is : yX5_is.cls ≠ "java/lang/invoke/MethodHandle" ∧ yX5_is.cls ≠ "java/lang/invoke/VarHandle" ∧ (parseMethodDescriptor yX5_is.desc).map (fun d => d.parameters.length) = some 1 := by decide +kernel
theorem hd_X5_isAsk : yX5_isAsk.cls ≠ "java/lang/invoke/MethodHandle" ∧ yX5_isAsk.cls ≠ "java/lang/invoke/VarHandle" ∧ (parseMethodDescriptor yX5_isAsk.desc).map (fun d => d.parameters.length) = some 1 := by decide +kernel
theorem hd_X5_isFit : yX5_isFit.cls ≠ "java/lang/invoke/MethodHandle" ∧ yX5_isFit.cls ≠ "java/lang/invoke/VarHandle" ∧ (parseMethodDescriptor yX5_isFit.desc).map (fun d => d.parameters.length) = some 2 := by decide +kernel
theorem hd_X5_isPlain : yX5_isPlain.cls ≠ "java/lang/invoke/MethodHandle" ∧ yX5_isPlain.cls ≠ "java/lang/invoke/VarHandle" ∧ (parseMethodDescriptor yX5_isPlain.desc).map (fun d => d.parameters.length) = some 1 := by decide +kernel
theorem hd_X5_isValue : yX5_isValue.cls ≠ "java/lang/invoke/MethodHandle" ∧ yX5_isValue.cls ≠ "java/lang/invoke/VarHandle" ∧ (parseMethodDescriptor yX5_isValue.desc).map (fun d => d.parameters.length) = some 2 := by decide +kernel
theorem hd_X5_isWithin : yX5_isWithin.cls ≠ "java/lang/invoke/MethodHandle" ∧ yX5_isWithin.cls ≠ "java/lang/invoke/VarHandle" ∧ (parseMethodDescriptor yX5_isWithin.desc).map (fun d => d.parameters.length) = some 2 := by decide +kernel
theorem hd_X5_join : yX5_join.cls ≠ "java/lang/invoke/MethodHandle" ∧ yX5_join.cls ≠ "java/lang/invoke/VarHandle" ∧ (parseMethodDescriptor yX5_join.desc).map (fun d => d.parameters.length) = some 4 := by decide +kernel
theorem hd_X5_leastOf : yX5_leastOf.cls ≠ "java/lang/invoke/MethodHandle" ∧ yX5_leastOf.cls ≠ "java/lang/invoke/VarHandle" ∧ (parseMethodDescriptor yX5_leastOf.desc).map (fun d => d.parameters.length) = some 1 := by decide +kernel
theorem hd_X5_many : yX5_many.cls ≠ "java/lang/invoke/MethodHandle" ∧ yX5_many.cls ≠ "java/lang/invoke/VarHandle" ∧ (parseMethodDescriptor yX5_many.desc).map (fun d => d.parameters.length) = some 1 := by decide +kernel
theorem hd_X5_melt : yX5_melt.cls ≠ "java/lang/invoke/MethodHandle" ∧ yX5_melt.cls ≠ "java/lang/invoke/VarHandle" ∧ (parseMethodDescriptor yX5_melt.desc).map (fun d => d.parameters.length) = some 2 := by decide +kernel
theorem hd_X5_move : yX5_move.cls ≠ "java/lang/invoke/MethodHandle" ∧ yX5_move.cls ≠ "java/lang/invoke/VarHandle" ∧ (parseMethodDescriptor yX5_move.desc).map (fun d => d.parameters.length) = some 2 := by decide +kernel
theorem hd_X5_partMany : yX5_partMany.cls ≠ "java/lang/invoke/MethodHandle" ∧ yX5_partMany.cls ≠ "java/lang/invoke/VarHandle" ∧ (parseMethodDescriptor yX5_partMany.desc).map (fun d => d.parameters.length) = some 1 := by decide +kernel
theorem hd_X5_quarrel : yX5_quarrel.cls ≠ "java/lang/invoke/MethodHandle" ∧ yX5_quarrel.cls ≠ "java/lang/invoke/VarHandle" ∧ (parseMethodDescriptor yX5_quarrel.desc).map (fun d => d.parameters.length) = some 2 := by decide +kernel
theorem hd_X5_quarrels : yX5_quarrels.cls ≠ "java/lang/invoke/MethodHandle" ∧ yX5_quarrels.cls ≠ "java/lang/invoke/VarHandle" ∧ (parseMethodDescriptor yX5_quarrels.desc).map (fun d => d.parameters.length) = some 2 := by decide +kernel
theorem hd_X5_questionOf : yX5_questionOf.cls ≠ "java/lang/invoke/MethodHandle" ∧ yX5_questionOf.cls ≠ "java/lang/invoke/VarHandle" ∧ (parseMethodDescriptor yX5_questionOf.desc).map (fun d => d.parameters.length) = some 2 := by decide +kernel
theorem hd_X5_rule : yX5_rule.cls ≠ "java/lang/invoke/MethodHandle" ∧ yX5_rule.cls ≠ "java/lang/invoke/VarHandle" ∧ (parseMethodDescriptor yX5_rule.desc).map (fun d => d.parameters.length) = some 2 := by decide +kernel
theorem hd_X5_told : yX5_told.cls ≠ "java/lang/invoke/MethodHandle" ∧ yX5_told.cls ≠ "java/lang/invoke/VarHandle" ∧ (parseMethodDescriptor yX5_told.desc).map (fun d => d.parameters.length) = some 2 := by decide +kernel
theorem hd_X5_vote : yX5_vote.cls ≠ "java/lang/invoke/MethodHandle" ∧ yX5_vote.cls ≠ "java/lang/invoke/VarHandle" ∧ (parseMethodDescriptor yX5_vote.desc).map (fun d => d.parameters.length) = some 2 := by decide +kernel
theorem hd_X5_words : yX5_words.cls ≠ "java/lang/invoke/MethodHandle" ∧ yX5_words.cls ≠ "java/lang/invoke/VarHandle" ∧ (parseMethodDescriptor yX5_words.desc).map (fun d => d.parameters.length) = some 1 := by decide +kernel
theorem hd_X5_work : yX5_work.cls ≠ "java/lang/invoke/MethodHandle" ∧ yX5_work.cls ≠ "java/lang/invoke/VarHandle" ∧ (parseMethodDescriptor yX5_work.desc).map (fun d => d.parameters.length) = some 0 := by decide +kernel
theorem hd_X5_workJoined : yX5_workJoined.cls ≠ "java/lang/invoke/MethodHandle" ∧ yX5_workJoined.cls ≠ "java/lang/invoke/VarHandle" ∧ (parseMethodDescriptor yX5_workJoined.desc).map (fun d => d.parameters.length) = some 1 := by decide +kernel
theorem hd_X5_workPlain : yX5_workPlain.cls ≠ "java/lang/invoke/MethodHandle" ∧ yX5_workPlain.cls ≠ "java/lang/invoke/VarHandle" ∧ (parseMethodDescriptor yX5_workPlain.desc).map (fun d => d.parameters.length) = some 1 := by decide +kernel
theorem k_sw0_13 (x : Int32) : x = 0 ∨ x = 1 ∨ x = 2 ∨ x = 3 ∨ x = 4 ∨ x = 5 ∨ x = 6 ∨ x = 7 ∨ x = 8 ∨ x = 9 ∨ x = 10 ∨ x = 11 ∨ x = 12 ∨ x = 13 ∨ (x.toInt < 0 ∨ 13 < x.toInt) := by
  by_cases h : x.toInt < 0 ∨ 13 < x.toInt
  · exact Or.inr (Or.inr (Or.inr (Or.inr (Or.inr (Or.inr (Or.inr (Or.inr (Or.inr (Or.inr (Or.inr (Or.inr (Or.inr (Or.inr (h))))))))))))))
  · have hx : x.toInt = 0 ∨ x.toInt = 1 ∨ x.toInt = 2 ∨ x.toInt = 3 ∨ x.toInt = 4 ∨ x.toInt = 5 ∨ x.toInt = 6 ∨ x.toInt = 7 ∨ x.toInt = 8 ∨ x.toInt = 9 ∨ x.toInt = 10 ∨ x.toInt = 11 ∨ x.toInt = 12 ∨ x.toInt = 13 := by omega
    rcases hx with h | h | h | h | h | h | h | h | h | h | h | h | h | h
    · exact Or.inl (Int32.toInt_inj.mp (h.trans (by decide)))
    · exact Or.inr (Or.inl (Int32.toInt_inj.mp (h.trans (by decide))))
    · exact Or.inr (Or.inr (Or.inl (Int32.toInt_inj.mp (h.trans (by decide)))))
    · exact Or.inr (Or.inr (Or.inr (Or.inl (Int32.toInt_inj.mp (h.trans (by decide))))))
    · exact Or.inr (Or.inr (Or.inr (Or.inr (Or.inl (Int32.toInt_inj.mp (h.trans (by decide)))))))
    · exact Or.inr (Or.inr (Or.inr (Or.inr (Or.inr (Or.inl (Int32.toInt_inj.mp (h.trans (by decide))))))))
    · exact Or.inr (Or.inr (Or.inr (Or.inr (Or.inr (Or.inr (Or.inl (Int32.toInt_inj.mp (h.trans (by decide)))))))))
    · exact Or.inr (Or.inr (Or.inr (Or.inr (Or.inr (Or.inr (Or.inr (Or.inl (Int32.toInt_inj.mp (h.trans (by decide))))))))))
    · exact Or.inr (Or.inr (Or.inr (Or.inr (Or.inr (Or.inr (Or.inr (Or.inr (Or.inl (Int32.toInt_inj.mp (h.trans (by decide)))))))))))
    · exact Or.inr (Or.inr (Or.inr (Or.inr (Or.inr (Or.inr (Or.inr (Or.inr (Or.inr (Or.inl (Int32.toInt_inj.mp (h.trans (by decide))))))))))))
    · exact Or.inr (Or.inr (Or.inr (Or.inr (Or.inr (Or.inr (Or.inr (Or.inr (Or.inr (Or.inr (Or.inl (Int32.toInt_inj.mp (h.trans (by decide)))))))))))))
    · exact Or.inr (Or.inr (Or.inr (Or.inr (Or.inr (Or.inr (Or.inr (Or.inr (Or.inr (Or.inr (Or.inr (Or.inl (Int32.toInt_inj.mp (h.trans (by decide))))))))))))))
    · exact Or.inr (Or.inr (Or.inr (Or.inr (Or.inr (Or.inr (Or.inr (Or.inr (Or.inr (Or.inr (Or.inr (Or.inr (Or.inl (Int32.toInt_inj.mp (h.trans (by decide)))))))))))))))
    · exact Or.inr (Or.inr (Or.inr (Or.inr (Or.inr (Or.inr (Or.inr (Or.inr (Or.inr (Or.inr (Or.inr (Or.inr (Or.inr (Or.inl (Int32.toInt_inj.mp (h.trans (by decide))))))))))))))))

theorem k_sw0_8 (x : Int32) : x = 0 ∨ x = 1 ∨ x = 2 ∨ x = 3 ∨ x = 4 ∨ x = 5 ∨ x = 6 ∨ x = 7 ∨ x = 8 ∨ (x.toInt < 0 ∨ 8 < x.toInt) := by
  by_cases h : x.toInt < 0 ∨ 8 < x.toInt
  · exact Or.inr (Or.inr (Or.inr (Or.inr (Or.inr (Or.inr (Or.inr (Or.inr (Or.inr (h)))))))))
  · have hx : x.toInt = 0 ∨ x.toInt = 1 ∨ x.toInt = 2 ∨ x.toInt = 3 ∨ x.toInt = 4 ∨ x.toInt = 5 ∨ x.toInt = 6 ∨ x.toInt = 7 ∨ x.toInt = 8 := by omega
    rcases hx with h | h | h | h | h | h | h | h | h
    · exact Or.inl (Int32.toInt_inj.mp (h.trans (by decide)))
    · exact Or.inr (Or.inl (Int32.toInt_inj.mp (h.trans (by decide))))
    · exact Or.inr (Or.inr (Or.inl (Int32.toInt_inj.mp (h.trans (by decide)))))
    · exact Or.inr (Or.inr (Or.inr (Or.inl (Int32.toInt_inj.mp (h.trans (by decide))))))
    · exact Or.inr (Or.inr (Or.inr (Or.inr (Or.inl (Int32.toInt_inj.mp (h.trans (by decide)))))))
    · exact Or.inr (Or.inr (Or.inr (Or.inr (Or.inr (Or.inl (Int32.toInt_inj.mp (h.trans (by decide))))))))
    · exact Or.inr (Or.inr (Or.inr (Or.inr (Or.inr (Or.inr (Or.inl (Int32.toInt_inj.mp (h.trans (by decide)))))))))
    · exact Or.inr (Or.inr (Or.inr (Or.inr (Or.inr (Or.inr (Or.inr (Or.inl (Int32.toInt_inj.mp (h.trans (by decide))))))))))
    · exact Or.inr (Or.inr (Or.inr (Or.inr (Or.inr (Or.inr (Or.inr (Or.inr (Or.inl (Int32.toInt_inj.mp (h.trans (by decide)))))))))))

theorem k_sw0_3 (x : Int32) : x = 0 ∨ x = 1 ∨ x = 2 ∨ x = 3 ∨ (x.toInt < 0 ∨ 3 < x.toInt) := by
  by_cases h : x.toInt < 0 ∨ 3 < x.toInt
  · exact Or.inr (Or.inr (Or.inr (Or.inr (h))))
  · have hx : x.toInt = 0 ∨ x.toInt = 1 ∨ x.toInt = 2 ∨ x.toInt = 3 := by omega
    rcases hx with h | h | h | h
    · exact Or.inl (Int32.toInt_inj.mp (h.trans (by decide)))
    · exact Or.inr (Or.inl (Int32.toInt_inj.mp (h.trans (by decide))))
    · exact Or.inr (Or.inr (Or.inl (Int32.toInt_inj.mp (h.trans (by decide)))))
    · exact Or.inr (Or.inr (Or.inr (Or.inl (Int32.toInt_inj.mp (h.trans (by decide))))))

theorem k_sw0_18 (x : Int32) : x = 0 ∨ x = 1 ∨ x = 2 ∨ x = 3 ∨ x = 4 ∨ x = 5 ∨ x = 6 ∨ x = 7 ∨ x = 8 ∨ x = 9 ∨ x = 10 ∨ x = 11 ∨ x = 12 ∨ x = 13 ∨ x = 14 ∨ x = 15 ∨ x = 16 ∨ x = 17 ∨ x = 18 ∨ (x.toInt < 0 ∨ 18 < x.toInt) := by
  by_cases h : x.toInt < 0 ∨ 18 < x.toInt
  · exact Or.inr (Or.inr (Or.inr (Or.inr (Or.inr (Or.inr (Or.inr (Or.inr (Or.inr (Or.inr (Or.inr (Or.inr (Or.inr (Or.inr (Or.inr (Or.inr (Or.inr (Or.inr (Or.inr (h)))))))))))))))))))
  · have hx : x.toInt = 0 ∨ x.toInt = 1 ∨ x.toInt = 2 ∨ x.toInt = 3 ∨ x.toInt = 4 ∨ x.toInt = 5 ∨ x.toInt = 6 ∨ x.toInt = 7 ∨ x.toInt = 8 ∨ x.toInt = 9 ∨ x.toInt = 10 ∨ x.toInt = 11 ∨ x.toInt = 12 ∨ x.toInt = 13 ∨ x.toInt = 14 ∨ x.toInt = 15 ∨ x.toInt = 16 ∨ x.toInt = 17 ∨ x.toInt = 18 := by omega
    rcases hx with h | h | h | h | h | h | h | h | h | h | h | h | h | h | h | h | h | h | h
    · exact Or.inl (Int32.toInt_inj.mp (h.trans (by decide)))
    · exact Or.inr (Or.inl (Int32.toInt_inj.mp (h.trans (by decide))))
    · exact Or.inr (Or.inr (Or.inl (Int32.toInt_inj.mp (h.trans (by decide)))))
    · exact Or.inr (Or.inr (Or.inr (Or.inl (Int32.toInt_inj.mp (h.trans (by decide))))))
    · exact Or.inr (Or.inr (Or.inr (Or.inr (Or.inl (Int32.toInt_inj.mp (h.trans (by decide)))))))
    · exact Or.inr (Or.inr (Or.inr (Or.inr (Or.inr (Or.inl (Int32.toInt_inj.mp (h.trans (by decide))))))))
    · exact Or.inr (Or.inr (Or.inr (Or.inr (Or.inr (Or.inr (Or.inl (Int32.toInt_inj.mp (h.trans (by decide)))))))))
    · exact Or.inr (Or.inr (Or.inr (Or.inr (Or.inr (Or.inr (Or.inr (Or.inl (Int32.toInt_inj.mp (h.trans (by decide))))))))))
    · exact Or.inr (Or.inr (Or.inr (Or.inr (Or.inr (Or.inr (Or.inr (Or.inr (Or.inl (Int32.toInt_inj.mp (h.trans (by decide)))))))))))
    · exact Or.inr (Or.inr (Or.inr (Or.inr (Or.inr (Or.inr (Or.inr (Or.inr (Or.inr (Or.inl (Int32.toInt_inj.mp (h.trans (by decide))))))))))))
    · exact Or.inr (Or.inr (Or.inr (Or.inr (Or.inr (Or.inr (Or.inr (Or.inr (Or.inr (Or.inr (Or.inl (Int32.toInt_inj.mp (h.trans (by decide)))))))))))))
    · exact Or.inr (Or.inr (Or.inr (Or.inr (Or.inr (Or.inr (Or.inr (Or.inr (Or.inr (Or.inr (Or.inr (Or.inl (Int32.toInt_inj.mp (h.trans (by decide))))))))))))))
    · exact Or.inr (Or.inr (Or.inr (Or.inr (Or.inr (Or.inr (Or.inr (Or.inr (Or.inr (Or.inr (Or.inr (Or.inr (Or.inl (Int32.toInt_inj.mp (h.trans (by decide)))))))))))))))
    · exact Or.inr (Or.inr (Or.inr (Or.inr (Or.inr (Or.inr (Or.inr (Or.inr (Or.inr (Or.inr (Or.inr (Or.inr (Or.inr (Or.inl (Int32.toInt_inj.mp (h.trans (by decide))))))))))))))))
    · exact Or.inr (Or.inr (Or.inr (Or.inr (Or.inr (Or.inr (Or.inr (Or.inr (Or.inr (Or.inr (Or.inr (Or.inr (Or.inr (Or.inr (Or.inl (Int32.toInt_inj.mp (h.trans (by decide)))))))))))))))))
    · exact Or.inr (Or.inr (Or.inr (Or.inr (Or.inr (Or.inr (Or.inr (Or.inr (Or.inr (Or.inr (Or.inr (Or.inr (Or.inr (Or.inr (Or.inr (Or.inl (Int32.toInt_inj.mp (h.trans (by decide))))))))))))))))))
    · exact Or.inr (Or.inr (Or.inr (Or.inr (Or.inr (Or.inr (Or.inr (Or.inr (Or.inr (Or.inr (Or.inr (Or.inr (Or.inr (Or.inr (Or.inr (Or.inr (Or.inl (Int32.toInt_inj.mp (h.trans (by decide)))))))))))))))))))
    · exact Or.inr (Or.inr (Or.inr (Or.inr (Or.inr (Or.inr (Or.inr (Or.inr (Or.inr (Or.inr (Or.inr (Or.inr (Or.inr (Or.inr (Or.inr (Or.inr (Or.inr (Or.inl (Int32.toInt_inj.mp (h.trans (by decide))))))))))))))))))))
    · exact Or.inr (Or.inr (Or.inr (Or.inr (Or.inr (Or.inr (Or.inr (Or.inr (Or.inr (Or.inr (Or.inr (Or.inr (Or.inr (Or.inr (Or.inr (Or.inr (Or.inr (Or.inr (Or.inl (Int32.toInt_inj.mp (h.trans (by decide)))))))))))))))))))))
end
section
/-! what the keeper's methods answer, on the slots (kinds 0 .. 12) -/
def kBit (n : Int32) : Int32 := if n < 0 then 0 else if 30 < n then 0 else 1 <<< (n &&& 31)
def kWithin (v a b : Int32) : Bool := !decide (v < a) && !decide (b < v)
def kIsSW (x : Int64) : Bool := !decide (x < 0) && !decide (1099511627776 ≤ x)
def kAllV (a : Int32) : Int32 := if a < 0 then 0 else if 3 ≤ a then 0 else k_allv a.toNatClampNeg
def kIsSV (a x : Int32) : Bool := !decide (x ≤ 0) && !decide (kAllV a < x)
def kIsVal (a v : Int32) : Bool := !decide (kAllV a &&& kBit v = 0)
def kIsValN (a v : Int32) : Bool := decide (v = -1) || kIsVal a v
def kLeastF (x : Int32) : Nat → Nat → Int32
  | 0, _ => -1
  | d + 1, i => if x &&& kBit (nI i) = 0 then kLeastF x d (i + 1) else nI i
def kLeast (x : Int32) : Int32 := kLeastF x 31 0
def kFoldStep (f : Nat → Int32) (x : Int64) (w : Nat) (r : Int64) : Int64 := if x &&& (1 <<< (Int32.toInt64 (nI w) &&& 63)) = 0 then r else r ||| (1 <<< (Int32.toInt64 (f w) &&& 63))
def kFold (f : Nat → Int32) (x : Int64) : Int64 := kLoop (kFoldStep f x) 40 0 0
def kFoldOf (I : k_I) (w : Int32) : Int32 := if w < 0 then -1 else if 40 ≤ w then -1 else I 2 0 w.toNatClampNeg
def kTurn (I : k_I) (w t : Int32) : k_I := if w < 0 then I else if 40 ≤ w then I else k_up I 2 0 (upd (I 2 0) w.toNatClampNeg t)
def kChg (I : k_I) (x t : Int32) : Bool := kAny (fun k => !decide (x &&& kBit (nI k) = 0) && !decide (I 5 0 k ≤ t)) 10 0
def kMoved (I : k_I) (i : Nat) : Bool := !decide (I 8 i 9 = I 8 i 0)
def kKind (I : k_I) (i : Nat) : Int32 := if kMoved I i then 2 else I 8 i 1
def kDoubted (I : k_I) (i : Nat) : Bool := !decide (I 8 i 11 = 0) && !kMoved I i
def kSet (I : k_I) (i : Nat) (a : Int32) : Int32 := if a < 0 then 0 else if 3 ≤ a then 0 else I 9 i a.toNatClampNeg
def kHas (I : k_I) (i : Nat) (a v : Int32) : Bool := !decide (kSet I i a &&& kBit v = 0)
def kPart (I : k_I) (i : Nat) (k : Int32) : Int32 := if k < 0 then -1 else if 4 ≤ k then -1 else I 10 i k.toNatClampNeg
def kPartN (I : k_I) (i : Nat) : Int32 := kLoop (fun k n => if I 10 i k = -1 then n else n + 1) 4 0 0
def kVal (I : k_I) (q : Nat) (a : Int32) : Int32 := if a < 0 then -1 else if 3 ≤ a then -1 else I 12 q a.toNatClampNeg
def kEnd (nA : Nat) (I : k_I) (a : Int32) : Option Nat := match kAns nA a with
  | none => none
  | some i => kAns nA (I 8 i 9)
theorem kEnd_b {n i : Nat} {I : k_I} {a : Int32} (h : kEnd n I a = some i) : i < n := by
  unfold kEnd at h
  split at h
  · cases h
  · exact kAns_b h
def kPartNow (nA : Nat) (I : k_I) (i : Nat) (k : Int32) : Int32 := match kEnd nA I (kPart I i k) with
  | none => -1
  | some j => I 8 j 0
def kFindI (q : Nat → Bool) : Nat → Nat → Int32
  | 0, _ => -1
  | d + 1, i => if q i then nI i else kFindI q d (i + 1)
/-! the JDK's bit counts, as they stand -/
def kS32 (x y : Int32) : Int32 := (x.toUInt32 >>> (Int32.toUInt32 y &&& Int32.toUInt32 31)).toInt32
def kS64 (x : Int64) (y : Int32) : Int64 := (x.toUInt64 >>> ((Int32.toInt64 y).toUInt64 &&& Int64.toUInt64 63)).toInt64
def kBa (x : Int32) : Int32 := x - (kS32 x 1 &&& 1431655765)
def kBb (x : Int32) : Int32 := (x &&& 858993459) + (kS32 x 2 &&& 858993459)
def kBc (x : Int32) : Int32 := (x + kS32 x 4) &&& 252645135
def kBd (x : Int32) : Int32 := x + kS32 x 8
def kBe (x : Int32) : Int32 := x + kS32 x 16
def kBC32 (x : Int32) : Int32 := kBe (kBd (kBc (kBb (kBa x)))) &&& 63
def kLa (x : Int64) : Int64 := x - (kS64 x 1 &&& 6148914691236517205)
def kLb (x : Int64) : Int64 := (x &&& 3689348814741910323) + (kS64 x 2 &&& 3689348814741910323)
def kLc (x : Int64) : Int64 := (x + kS64 x 4) &&& 1085102592571150095
def kLd (x : Int64) : Int64 := x + kS64 x 8
def kLe (x : Int64) : Int64 := x + kS64 x 16
def kLf (x : Int64) : Int64 := x + kS64 x 32
def kBC64 (x : Int64) : Int32 := Int64.toInt32 (kLf (kLe (kLd (kLc (kLb (kLa x)))))) &&& 127
def kFar (x y : Int64) : Int32 := kBC64 (x ^^^ y)
/-! asks and answers -/
def kFit1 (I : k_I) (q i : Nat) (a : Nat) : Bool := !decide (kSet I i (nI a) = 0) && (decide (kVal I q (nI a) = -1) || kHas I i (nI a) (kVal I q (nI a)))
def kFit (I : k_I) (q i : Nat) : Bool := !kMoved I i && !kAny (fun a => !kFit1 I q i a) 3 0
def kQu1 (I : k_I) (q i : Nat) (a : Nat) : Bool := decide (kVal I q (nI a) = -1) && !decide (kSet I i (nI a) = kAllV (nI a))
def kQu (I : k_I) (q i : Nat) : Int32 := kFindI (kQu1 I q i) 3 0
def kMin9 (v : Int32) : Int32 := if v < 9 then v else 9
def kMax9 (v : Int32) : Int32 := if -9 < v then v else -9
def kCost (I : k_I) (J : k_J) (f : Int64) (q i : Nat) : Int32 := 10 * kBC64 (f &&& (J 8 i 10 ^^^ -1)) + 3 * kBC64 (J 8 i 10 &&& (f ^^^ -1)) + (if kDoubted I i then 15 else 0) + (if kQu I q i = -1 then 0 else 5) - kMax9 (kMin9 (I 8 i 8))
def kFound (I : k_I) (J : k_J) (f : Int64) (q i : Nat) : Bool := kFit I q i && !decide (I 0 0 7 < kCost I J f q i)
def kSome (nA : Nat) (I : k_I) (J : k_J) (f : Int64) (q : Nat) : Bool := kAny (fun a => kFound I J f q a) nA 0
def kFoundN (nA : Nat) (I : k_I) (J : k_J) (q : Nat) : Int32 := kLoop (fun a n => if kFound I J (J 11 q 2) q a then n + 1 else n) nA 0 (0 : Int32)
def kBet1 (I : k_I) (J : k_J) (q i b : Nat) : Bool := kFound I J (J 11 q 2) q b && (decide (kCost I J (J 11 q 2) q b < kCost I J (J 11 q 2) q i) || decide (kCost I J (J 11 q 2) q b = kCost I J (J 11 q 2) q i) && decide (I 8 b 0 < I 8 i 0))
def kBetter (nA : Nat) (I : k_I) (J : k_J) (q i : Nat) : Int32 := kLoop (fun b n => if kBet1 I J q i b then n + 1 else n) nA 0 (0 : Int32)
def kFoundAt (nA : Nat) (I : k_I) (J : k_J) (q : Nat) (k : Int32) : Option Nat := kFind (fun a => kFound I J (J 11 q 2) q a && decide (kBetter nA I J q a = k)) nA 0
theorem kFind_b {q : Nat → Bool} : ∀ {d i k : Nat}, kFind q d i = some k → k < i + d
  | 0, _, _, h => by cases h
  | d + 1, i, k, h => by
    unfold kFind at h
    split at h
    · cases h; omega
    · have := kFind_b h; omega
theorem kFoundAt_b {nA : Nat} {I : k_I} {J : k_J} {q : Nat} {k : Int32} {i : Nat} (h : kFoundAt nA I J q k = some i) : i < nA := by
  have := kFind_b h; omega
def kHelp (nA : Nat) (I : k_I) (J : k_J) (q : Nat) : Int32 := kFindI (fun w => kSome nA I J (kFold (I 2 0) (J 11 q 0 ||| (1 <<< (Int32.toInt64 (nI w) &&& 63)))) q) 40 0
def kVain (nA nK : Nat) (I : k_I) (J : k_J) : Int32 := kLoop (fun k v => if kSome nA I J (J 11 k 2) k then v else v ||| kBit (nI k)) nK 0 (0 : Int32)
def kNear1 (nK : Nat) (I : k_I) (J : k_J) (q : Nat) (h : Int32) : Bool := kAny (fun k => !decide (h &&& kBit (nI k) = 0) && !decide (I 0 0 6 < kFar (J 11 q 2) (J 11 k 2))) nK 0
def kHeapStep (nK : Nat) (I : k_I) (J : k_J) (v : Int32) (k : Nat) (h : Int32) : Int32 := if v &&& (h ^^^ -1) &&& kBit (nI k) = 0 then h else if kNear1 nK I J k h then h ||| kBit (nI k) else h
def kHeapFrom (nK : Nat) (I : k_I) (J : k_J) (first : Int32) (v : Int32) : Int32 := kLoop (fun _ h => kLoop (kHeapStep nK I J v) nK 0 h) 30 0 (kBit first)
def kHeapN (nK : Nat) (I : k_I) (J : k_J) (v : Int32) : Int32 × Int32 := kLoop (fun k (s : Int32 × Int32) => if s.1 &&& kBit (nI k) = 0 then s else (s.1 &&& (kHeapFrom nK I J (nI k) v ^^^ -1), s.2 + 1)) nK 0 (v, 0)
def kHeapOfF (nK : Nat) (I : k_I) (J : k_J) (q v : Int32) : Nat → Nat → Int32 → Int32 → Int32
  | 0, _, _, _ => -1
  | d + 1, k, left, n => if left &&& kBit (nI k) = 0 then kHeapOfF nK I J q v d (k + 1) left n else if kHeapFrom nK I J (nI k) v &&& kBit q = 0 then kHeapOfF nK I J q v d (k + 1) (left &&& (kHeapFrom nK I J (nI k) v ^^^ -1)) (n + 1) else n
def kHeapOf (nK : Nat) (I : k_I) (J : k_J) (q v : Int32) : Int32 := kHeapOfF nK I J q v nK 0 v 0
/-! counts, quarrels -/
def kKindN (nA : Nat) (I : k_I) (k : Int32) : Int32 := kLoop (fun a n => if kKind I a = k then n + 1 else n) nA 0 (0 : Int32)
def kDoubtN (nA : Nat) (I : k_I) : Int32 := kLoop (fun a n => if kDoubted I a then n + 1 else n) nA 0 (0 : Int32)
def kQuar (I : k_I) (J : k_J) (i j : Nat) : Bool := decide (kKind I i = 0) && decide (kKind I j = 0) && !decide (I 8 i 2 = I 8 j 2) && !kAny (fun a => decide (kSet I i (nI a) &&& kSet I j (nI a) = 0)) 3 0 && !decide (I 0 0 6 < kFar (J 8 i 10) (J 8 j 10))
def kQuarRow (nA : Nat) (I : k_I) (J : k_J) (a : Nat) (n : Int32) : Int32 := kLoop (fun b n => if kQuar I J a b then n + 1 else n) (nA - (a + 1)) (a + 1) n
def kQuarN (nA : Nat) (I : k_I) (J : k_J) : Int32 := kLoop (fun a n => kQuarRow nA I J a n) nA 0 (0 : Int32)
def kQuarPart (I : k_I) (a b : Nat) (w : Int32) : Int32 := if w = 0 then nI a else if w = 1 then nI b else kLeast (kSet I a (w - 2) &&& kSet I b (w - 2))
def kAllPlain (nA : Nat) (I : k_I) (x : Int32) : Bool := !kAny (fun a => !decide (x &&& kBit (nI a) = 0) && !decide (kKind I a = 0)) nA 0
def kLike (I : k_I) (i j : Nat) : Int32 := kLoop (fun a n => if kSet I i (nI a) = kSet I j (nI a) then n + 1 else n) 3 0 (0 : Int32)
def kInside (I : k_I) (i j : Nat) : Bool := !kAny (fun a => !decide (kSet I i (nI a) &&& (kSet I j (nI a) ^^^ -1) = 0)) 3 0
def kMay (I : k_I) (i j : Nat) : Bool := decide (kKind I i = 0) && decide (kKind I j = 0) && decide (I 8 i 2 = I 8 j 2) && (!decide (kLike I i j < 2) || kInside I j i || kInside I i j)
theorem kAns_x {n N : Nat} {a : Int32} (h : n ≤ N) (hN : N < 2 ^ 31) (c : ¬ nI n ≤ a) (d : nI N ≤ a) : False := by
  rw [Int32.le_iff_toInt_le, nI_toInt (by omega)] at c
  rw [Int32.le_iff_toInt_le, nI_toInt hN] at d
  omega
end
section
set_option maxHeartbeats 4000000 in
set_option maxRecDepth 100000 in
theorem m_X4_bit (l : Launch) (G : k_G) (PW : Heap → Prop) (n : Int32) : k_Met l yX4_bit cX4_bit 1 (some FieldType.int) { frames := 0, cells := 0, slots := 0, locals := 0 } G [.int n] (PW) (some (.int (kBit n))) (PW) 0 0 := by
  refine k_body (by decide) (Nat.le_of_ble_eq_true rfl) ?_
  intro p e s m below meth c ls X hr hlk hnm hW hS hl
  have hx := X.1.1
  have hb := X.1.2.1
  have hG := X.1.2.2.2.2
  have hl : lv_has ls 1 [(0, .int n)] := hl
  refine lv_iload_n hx hb dX4_bit_0 rfl (lv_at hl 0 rfl) ?_
  refine lv_if_lt (tgt := 16) hx hb dX4_bit_1 (by decide) (fun c_1 => ?_) (fun c_1 => ?_)
  · skip
    refine lv_iconst (v := 0) hx hb dX4_bit_16 (by decide) ?_
    exact w_iret X hr hlk hS (by first | rfl | (simp [kBit, c_1]; done)) hW dX4_bit_17
  · skip
    refine lv_iload_n hx hb dX4_bit_4 rfl (lv_at hl 0 rfl) ?_
    refine lv_bipush (v := 30) hx hb dX4_bit_5 (by decide) ?_
    refine lv_icmp_gt (tgt := 16) hx hb dX4_bit_7 (by decide) (fun c_2 => ?_) (fun c_2 => ?_)
    · skip
      refine lv_iconst (v := 0) hx hb dX4_bit_16 (by decide) ?_
      exact w_iret X hr hlk hS (by first | rfl | (simp [kBit, c_1, c_2]; done)) hW dX4_bit_17
    · skip
      refine lv_iconst (v := 1) hx hb dX4_bit_10 (by decide) ?_
      refine lv_iload_n hx hb dX4_bit_11 rfl (lv_at hl 0 rfl) ?_
      refine lv_ishl hx hb dX4_bit_12 ?_
      refine lv_goto (tgt := 17) hx hb dX4_bit_13 (by decide) ?_
      exact w_iret X hr hlk hS (by first | rfl | (simp [kBit, c_1, c_2]; done)) hW dX4_bit_17
set_option maxHeartbeats 4000000 in
set_option maxRecDepth 100000 in
theorem m_X4_within (l : Launch) (G : k_G) (PW : Heap → Prop) (v : Int32) (a : Int32) (b : Int32) : k_Met l yX4_within cX4_within 3 (some FieldType.boolean) { frames := 0, cells := 0, slots := 0, locals := 0 } G [.int v, .int a, .int b] (PW) (some (.int (k_b (kWithin v a b)))) (PW) 0 0 := by
  refine k_body (by decide) (Nat.le_of_ble_eq_true rfl) ?_
  intro p e s m below meth c ls X hr hlk hnm hW hS hl
  have hx := X.1.1
  have hb := X.1.2.1
  have hG := X.1.2.2.2.2
  have hl : lv_has ls 3 [(0, .int v), (1, .int a), (2, .int b)] := hl
  refine lv_iload_n hx hb dX4_within_0 rfl (lv_at hl 0 rfl) ?_
  refine lv_iload_n hx hb dX4_within_1 rfl (lv_at hl 1 rfl) ?_
  refine lv_icmp_lt (tgt := 14) hx hb dX4_within_2 (by decide) (fun c_1 => ?_) (fun c_1 => ?_)
  · skip
    refine lv_iconst (v := 0) hx hb dX4_within_14 (by decide) ?_
    exact w_zret X hr hlk hS (by first | rfl | (simp [kWithin, k_b, c_1]; done)) (k_b_n _) hW dX4_within_15
  · skip
    refine lv_iload_n hx hb dX4_within_5 rfl (lv_at hl 0 rfl) ?_
    refine lv_iload_n hx hb dX4_within_6 rfl (lv_at hl 2 rfl) ?_
    refine lv_icmp_gt (tgt := 14) hx hb dX4_within_7 (by decide) (fun c_2 => ?_) (fun c_2 => ?_)
    · skip
      refine lv_iconst (v := 0) hx hb dX4_within_14 (by decide) ?_
      exact w_zret X hr hlk hS (by first | rfl | (simp [kWithin, k_b, c_1, c_2]; done)) (k_b_n _) hW dX4_within_15
    · skip
      refine lv_iconst (v := 1) hx hb dX4_within_10 (by decide) ?_
      refine lv_goto (tgt := 15) hx hb dX4_within_11 (by decide) ?_
      exact w_zret X hr hlk hS (by first | rfl | (simp [kWithin, k_b, c_1, c_2]; done)) (k_b_n _) hW dX4_within_15
set_option maxHeartbeats 4000000 in
set_option maxRecDepth 100000 in
theorem m_X4_isWord (l : Launch) (G : k_G) (PW : Heap → Prop) (w : Int32) : k_Met l yX4_isWord cX4_isWord 1 (some FieldType.boolean) { frames := 1, cells := 0, slots := 0, locals := 22 } G [.int w] (PW) (some (.int (k_b (kWithin w 0 39)))) (PW) 0 0 := by
  refine k_body (by decide) (Nat.le_of_ble_eq_true rfl) ?_
  intro p e s m below meth c ls X hr hlk hnm hW hS hl
  have hx := X.1.1
  have hb := X.1.2.1
  have hG := X.1.2.2.2.2
  have hl : lv_has ls 1 [(0, .int w)] := hl
  refine lv_iload_n hx hb dX4_isWord_0 rfl (lv_at hl 0 rfl) ?_
  refine lv_iconst (v := 0) hx hb dX4_isWord_1 (by decide) ?_
  refine lv_bipush (v := 39) hx hb dX4_isWord_2 (by decide) ?_
  refine w_cS1 X hS (m_X4_within l G (PW) w 0 39 ) rfl rfl g83 g1 g81 g82 hd_X4_within ⟨Nat.le_of_ble_eq_true rfl, Nat.le_of_ble_eq_true rfl⟩ hW hl.1 rfl (Nat.le_of_ble_eq_true rfl) dX4_isWord_4 (Nat.zero_le _) (Nat.zero_le _) (fun H locs hW hS => ?_)
  exact w_zret X hr hlk hS (by first | rfl | (simp []; done)) (k_b_n _) hW dX4_isWord_7
set_option maxHeartbeats 4000000 in
set_option maxRecDepth 100000 in
theorem m_X4_isSetOfWords (l : Launch) (G : k_G) (PW : Heap → Prop) (x : Int64) : k_Met l yX4_isSetOfWords cX4_isSetOfWords 2 (some FieldType.boolean) { frames := 0, cells := 0, slots := 0, locals := 0 } G [.long (x)] (PW) (some (.int (k_b (kIsSW x)))) (PW) 0 0 := by
  refine k_body (by decide) (Nat.le_of_ble_eq_true rfl) ?_
  intro p e s m below meth c ls X hr hlk hnm hW hS hl
  have hx := X.1.1
  have hb := X.1.2.1
  have hG := X.1.2.2.2.2
  have hl : lv_has ls 2 [(0, .long (x))] := hl
  refine lv_lload_n hx hb dX4_isSetOfWords_0 rfl (lv_at hl 0 rfl) ?_
  refine lv_lconst (v := 0) hx hb dX4_isSetOfWords_1 (by decide) ?_
  refine W.lcmp hx hb dX4_isSetOfWords_2 ?_
  refine lv_if_lt (tgt := 18) hx hb dX4_isSetOfWords_3 (by decide) (fun c_1 => ?_) (fun c_1 => ?_)
  · skip
    rw [lg_cmp_lt] at c_1
    refine lv_iconst (v := 0) hx hb dX4_isSetOfWords_18 (by decide) ?_
    exact w_zret X hr hlk hS (by first | rfl | (simp [kIsSW, k_b, c_1]; done)) (k_b_n _) hW dX4_isSetOfWords_19
  · skip
    rw [lg_cmp_lt] at c_1
    refine lv_lload_n hx hb dX4_isSetOfWords_6 rfl (lv_at hl 0 rfl) ?_
    refine lv_ldc2 hx hb X.1.2.2.2.1 (hG _ g176) dX4_isSetOfWords_7 ?_
    refine W.lcmp hx hb dX4_isSetOfWords_10 ?_
    refine lv_if_ge (tgt := 18) hx hb dX4_isSetOfWords_11 (by decide) (fun c_2 => ?_) (fun c_2 => ?_)
    · skip
      rw [lg_cmp_ge] at c_2
      refine lv_iconst (v := 0) hx hb dX4_isSetOfWords_18 (by decide) ?_
      exact w_zret X hr hlk hS (by first | rfl | (simp [kIsSW, k_b, c_1, c_2]; done)) (k_b_n _) hW dX4_isSetOfWords_19
    · skip
      rw [lg_cmp_ge] at c_2
      refine lv_iconst (v := 1) hx hb dX4_isSetOfWords_14 (by decide) ?_
      refine lv_goto (tgt := 19) hx hb dX4_isSetOfWords_15 (by decide) ?_
      exact w_zret X hr hlk hS (by first | rfl | (simp [kIsSW, k_b, c_1, c_2]; done)) (k_b_n _) hW dX4_isSetOfWords_19
set_option maxHeartbeats 4000000 in
set_option maxRecDepth 100000 in
theorem m_X4_allValues (l : Launch) (G : k_G) (PW : Heap → Prop) (a : Int32) : k_Met l yX4_allValues cX4_allValues 1 (some FieldType.int) { frames := 0, cells := 0, slots := 0, locals := 0 } G [.int a] (PW) (some (.int (kAllV a))) (PW) 0 0 := by
  refine k_body (by decide) (Nat.le_of_ble_eq_true rfl) ?_
  intro p e s m below meth c ls X hr hlk hnm hW hS hl
  have hx := X.1.1
  have hb := X.1.2.1
  have hG := X.1.2.2.2.2
  have hl : lv_has ls 1 [(0, .int a)] := hl
  refine lv_iload_n hx hb dX4_allValues_0 rfl (lv_at hl 0 rfl) ?_
  refine lv_if_lt (tgt := 20) hx hb dX4_allValues_1 (by decide) (fun c_1 => ?_) (fun c_1 => ?_)
  · skip
    refine lv_iconst (v := 0) hx hb dX4_allValues_20 (by decide) ?_
    exact w_iret X hr hlk hS (by first | rfl | (simp [kAllV, c_1]; done)) hW dX4_allValues_21
  · skip
    refine lv_iload_n hx hb dX4_allValues_4 rfl (lv_at hl 0 rfl) ?_
    refine w_gets X hS g143 dX4_allValues_5 ?_
    refine w_tlen X hS dX4_allValues_8 ?_
    refine lv_icmp_ge (tgt := 20) hx hb dX4_allValues_9 (by decide) (fun c_2 => ?_) (fun c_2 => ?_)
    · skip
      refine lv_iconst (v := 0) hx hb dX4_allValues_20 (by decide) ?_
      exact w_iret X hr hlk hS (by first | rfl | (simp [kAllV, c_1, c_2]; done)) hW dX4_allValues_21
    · skip
      refine w_gets X hS g143 dX4_allValues_12 ?_
      refine lv_iload_n hx hb dX4_allValues_15 rfl (lv_at hl 0 rfl) ?_
      refine w_tld X hS (k_in_a c_1 c_2 rfl) dX4_allValues_16 ?_
      refine lv_goto (tgt := 21) hx hb dX4_allValues_17 (by decide) ?_
      exact w_iret X hr hlk hS (by first | rfl | (simp [kAllV, c_1, c_2]; done)) hW dX4_allValues_21
set_option maxHeartbeats 4000000 in
set_option maxRecDepth 100000 in
theorem m_X4_isSetOfValues (l : Launch) (G : k_G) (PW : Heap → Prop) (a : Int32) (x : Int32) : k_Met l yX4_isSetOfValues cX4_isSetOfValues 2 (some FieldType.boolean) { frames := 1, cells := 0, slots := 0, locals := 20 } G [.int a, .int x] (PW) (some (.int (k_b (kIsSV a x)))) (PW) 0 0 := by
  refine k_body (by decide) (Nat.le_of_ble_eq_true rfl) ?_
  intro p e s m below meth c ls X hr hlk hnm hW hS hl
  have hx := X.1.1
  have hb := X.1.2.1
  have hG := X.1.2.2.2.2
  have hl : lv_has ls 2 [(0, .int a), (1, .int x)] := hl
  refine lv_iload_n hx hb dX4_isSetOfValues_0 rfl (lv_at hl 1 rfl) ?_
  refine lv_if_le (tgt := 16) hx hb dX4_isSetOfValues_1 (by decide) (fun c_1 => ?_) (fun c_1 => ?_)
  · skip
    refine lv_iconst (v := 0) hx hb dX4_isSetOfValues_16 (by decide) ?_
    exact w_zret X hr hlk hS (by first | rfl | (simp [kIsSV, k_b, c_1]; done)) (k_b_n _) hW dX4_isSetOfValues_17
  · skip
    refine lv_iload_n hx hb dX4_isSetOfValues_4 rfl (lv_at hl 1 rfl) ?_
    refine lv_iload_n hx hb dX4_isSetOfValues_5 rfl (lv_at hl 0 rfl) ?_
    refine w_cS1 X hS (m_X4_allValues l G (PW) a ) rfl rfl g142 g1 g180 g141 hd_X4_allValues ⟨Nat.le_of_ble_eq_true rfl, Nat.le_of_ble_eq_true rfl⟩ hW hl.1 rfl (Nat.le_of_ble_eq_true rfl) dX4_isSetOfValues_6 (Nat.zero_le _) (Nat.zero_le _) (fun H locs hW hS => ?_)
    refine lv_icmp_gt (tgt := 16) hx hb dX4_isSetOfValues_9 (by decide) (fun c_2 => ?_) (fun c_2 => ?_)
    · skip
      refine lv_iconst (v := 0) hx hb dX4_isSetOfValues_16 (by decide) ?_
      exact w_zret X hr hlk hS (by first | rfl | (simp [kIsSV, k_b, c_1, c_2]; done)) (k_b_n _) hW dX4_isSetOfValues_17
    · skip
      refine lv_iconst (v := 1) hx hb dX4_isSetOfValues_12 (by decide) ?_
      refine lv_goto (tgt := 17) hx hb dX4_isSetOfValues_13 (by decide) ?_
      exact w_zret X hr hlk hS (by first | rfl | (simp [kIsSV, k_b, c_1, c_2]; done)) (k_b_n _) hW dX4_isSetOfValues_17
set_option maxHeartbeats 4000000 in
set_option maxRecDepth 100000 in
theorem m_X4_isValue (l : Launch) (G : k_G) (PW : Heap → Prop) (a : Int32) (v : Int32) : k_Met l yX4_isValue cX4_isValue 2 (some FieldType.boolean) { frames := 1, cells := 0, slots := 0, locals := 20 } G [.int a, .int v] (PW) (some (.int (k_b (kIsVal a v)))) (PW) 0 0 := by
  refine k_body (by decide) (Nat.le_of_ble_eq_true rfl) ?_
  intro p e s m below meth c ls X hr hlk hnm hW hS hl
  have hx := X.1.1
  have hb := X.1.2.1
  have hG := X.1.2.2.2.2
  have hl : lv_has ls 2 [(0, .int a), (1, .int v)] := hl
  refine lv_iload_n hx hb dX4_isValue_0 rfl (lv_at hl 0 rfl) ?_
  refine w_cS1 X hS (m_X4_allValues l G (PW) a ) rfl rfl g142 g1 g180 g141 hd_X4_allValues ⟨Nat.le_of_ble_eq_true rfl, Nat.le_of_ble_eq_true rfl⟩ hW hl.1 rfl (Nat.le_of_ble_eq_true rfl) dX4_isValue_1 (Nat.zero_le _) (Nat.zero_le _) (fun H locs hW hS => ?_)
  refine lv_iload_n hx hb dX4_isValue_4 rfl (lv_at hl 1 rfl) ?_
  refine w_cS1 X hS (m_X4_bit l G (PW) v ) rfl rfl g110 g1 g131 g109 hd_X4_bit ⟨Nat.le_of_ble_eq_true rfl, Nat.le_of_ble_eq_true rfl⟩ hW hl.1 rfl (Nat.le_of_ble_eq_true rfl) dX4_isValue_5 (Nat.zero_le _) (Nat.zero_le _) (fun H locs hW hS => ?_)
  refine lv_iand hx hb dX4_isValue_8 ?_
  refine lv_if_eq (tgt := 16) hx hb dX4_isValue_9 (by decide) (fun c_1 => ?_) (fun c_1 => ?_)
  · skip
    refine lv_iconst (v := 0) hx hb dX4_isValue_16 (by decide) ?_
    exact w_zret X hr hlk hS (by first | rfl | (simp [kIsVal, k_b, c_1]; done)) (k_b_n _) hW dX4_isValue_17
  · skip
    refine lv_iconst (v := 1) hx hb dX4_isValue_12 (by decide) ?_
    refine lv_goto (tgt := 17) hx hb dX4_isValue_13 (by decide) ?_
    exact w_zret X hr hlk hS (by first | rfl | (simp [kIsVal, k_b, c_1]; done)) (k_b_n _) hW dX4_isValue_17
set_option maxHeartbeats 4000000 in
set_option maxRecDepth 100000 in
theorem m_X4_isValueOrNone (l : Launch) (G : k_G) (PW : Heap → Prop) (a : Int32) (v : Int32) : k_Met l yX4_isValueOrNone cX4_isValueOrNone 2 (some FieldType.boolean) { frames := 2, cells := 0, slots := 0, locals := 41 } G [.int a, .int v] (PW) (some (.int (k_b (kIsValN a v)))) (PW) 0 0 := by
  refine k_body (by decide) (Nat.le_of_ble_eq_true rfl) ?_
  intro p e s m below meth c ls X hr hlk hnm hW hS hl
  have hx := X.1.1
  have hb := X.1.2.1
  have hG := X.1.2.2.2.2
  have hl : lv_has ls 2 [(0, .int a), (1, .int v)] := hl
  refine lv_iload_n hx hb dX4_isValueOrNone_0 rfl (lv_at hl 1 rfl) ?_
  refine lv_iconst (v := (-1)) hx hb dX4_isValueOrNone_1 (by decide) ?_
  refine lv_icmp_eq (tgt := 13) hx hb dX4_isValueOrNone_2 (by decide) (fun c_1 => ?_) (fun c_1 => ?_)
  · skip
    refine lv_iconst (v := 1) hx hb dX4_isValueOrNone_13 (by decide) ?_
    refine lv_goto (tgt := 18) hx hb dX4_isValueOrNone_14 (by decide) ?_
    exact w_zret X hr hlk hS (by first | rfl | (simp [kIsValN, k_b, c_1]; done)) (k_b_n _) hW dX4_isValueOrNone_18
  · skip
    refine lv_iload_n hx hb dX4_isValueOrNone_5 rfl (lv_at hl 0 rfl) ?_
    refine lv_iload_n hx hb dX4_isValueOrNone_6 rfl (lv_at hl 1 rfl) ?_
    refine w_cS1 X hS (m_X4_isValue l G (PW) a v ) rfl rfl g348 g1 g346 g347 hd_X4_isValue ⟨Nat.le_of_ble_eq_true rfl, Nat.le_of_ble_eq_true rfl⟩ hW hl.1 rfl (Nat.le_of_ble_eq_true rfl) dX4_isValueOrNone_7 (Nat.zero_le _) (Nat.zero_le _) (fun H locs hW hS => ?_)
    refine lb_if_eq (tgt := 17) hx hb dX4_isValueOrNone_10 (by decide) (fun c_2 => ?_) (fun c_2 => ?_)
    · skip
      refine lv_iconst (v := 0) hx hb dX4_isValueOrNone_17 (by decide) ?_
      exact w_zret X hr hlk hS (by first | rfl | (simp [kIsValN, k_b, c_1, c_2]; done)) (k_b_n _) hW dX4_isValueOrNone_18
    · skip
      refine lv_iconst (v := 1) hx hb dX4_isValueOrNone_13 (by decide) ?_
      refine lv_goto (tgt := 18) hx hb dX4_isValueOrNone_14 (by decide) ?_
      exact w_zret X hr hlk hS (by first | rfl | (simp [kIsValN, k_b, c_1, c_2]; done)) (k_b_n _) hW dX4_isValueOrNone_18
set_option maxHeartbeats 4000000 in
set_option maxRecDepth 100000 in
theorem m_X4_least (l : Launch) (G : k_G) (PW : Heap → Prop) (x : Int32) : k_Met l yX4_least cX4_least 2 (some FieldType.int) { frames := 1, cells := 0, slots := 0, locals := 20 } G [.int x] (PW) (some (.int (kLeast x))) (PW) 0 0 := by
  refine k_body (by decide) (Nat.le_of_ble_eq_true rfl) ?_
  intro p e s m below meth c ls X hr hlk hnm hW hS hl
  have hx := X.1.1
  have hb := X.1.2.1
  have hG := X.1.2.2.2.2
  have hl : lv_has ls 2 [(0, .int x)] := hl
  refine lv_iconst (v := 0) hx hb dX4_least_0 (by decide) ?_
  refine lv_istore_n (lv' := [(1, .int 0), (0, .int x)]) hx hb dX4_least_1 rfl hl (by decide) rfl (fun ls hl => ?_)
  have loop2 : ∀ (d i : Nat), i + d = 31 → (kLeastF x d i = kLeast x) → ∀ (H : Heap) (locs : List Loc), PW H → va_S (k_A G) s.heap H locs → ∀ ls : Array Slot, lv_has ls 2 [(1, .int (nI i)), (0, .int x)] → W p l e { frames := 1, cells := 0, slots := 0, locals := 20 } s m ([.int x] : List Value).toArray below meth c H locs 0 0 (MQ below (k_Q G (some (.int (kLeast x))) (PW)) ([.int x] : List Value).toArray s 0 0 (k_A G)) (F0 m 2 ls []) := by
    intro d
    induction d with
    | zero =>
      intro i hi2 hz2  H locs hW hS ls hl
      refine lv_iload_n hx hb dX4_least_2 rfl (lv_at hl 0 rfl) ?_
      refine lv_bipush (v := 30) hx hb dX4_least_3 (by decide) ?_
      refine lv_icmp_gt (tgt := 25) hx hb dX4_least_5 (by decide) (fun c_1 => ?_) (fun c_1 => absurd ((nI_ltI (a := 30) (b := i) (by decide) (by omega)).mpr (by omega)) c_1)
      refine lv_iconst (v := (-1)) hx hb dX4_least_25 (by decide) ?_
      exact w_iret X hr hlk hS (by first | exact hz2 | (rw [← hz2]; simp [kLeastF, c_1]; done) | (simp [← hz2, kLeastF, c_1]; done) | (simp [kLeastF, c_1]; done)) hW dX4_least_26
    | succ d ih =>
      intro i hi2 hz2  H locs hW hS ls hl
      have hlt2 : i < 31 := by omega
      have ih2 := ih
      refine lv_iload_n hx hb dX4_least_2 rfl (lv_at hl 0 rfl) ?_
      refine lv_bipush (v := 30) hx hb dX4_least_3 (by decide) ?_
      refine lv_icmp_gt (tgt := 25) hx hb dX4_least_5 (by decide) (fun c_2 => absurd c_2 (fun h => by have := (nI_ltI (a := 30) (b := i) (by decide) (by omega)).mp h; omega)) (fun c_2 => ?_)
      refine lv_iload_n hx hb dX4_least_8 rfl (lv_at hl 1 rfl) ?_
      refine lv_iload_n hx hb dX4_least_9 rfl (lv_at hl 0 rfl) ?_
      refine w_cS1 X hS (m_X4_bit l G (PW) (nI i) ) rfl rfl g110 g1 g131 g109 hd_X4_bit ⟨Nat.le_of_ble_eq_true rfl, Nat.le_of_ble_eq_true rfl⟩ hW hl.1 rfl (Nat.le_of_ble_eq_true rfl) dX4_least_10 (Nat.zero_le _) (Nat.zero_le _) (fun H locs hW hS => ?_)
      refine lv_iand hx hb dX4_least_13 ?_
      refine lv_if_eq (tgt := 19) hx hb dX4_least_14 (by decide) (fun c_3 => ?_) (fun c_3 => ?_)
      · skip
        refine lv_iinc (v := nI (i + 1)) (lv' := [(1, .int (nI (i + 1))), (0, .int x)]) hx hb dX4_least_19 hl (k := 0) rfl (nI_1 i) (by decide) rfl (fun ls hl => ?_)
        refine lv_goto (tgt := 2) hx hb dX4_least_22 (by decide) ?_
        exact ih2 (i + 1) (by omega) (by first | exact hz2 | (rw [← hz2]; simp [kLeastF, c_2, c_3]; done) | (simp [← hz2, kLeastF, c_2, c_3]; done)) _ _ hW hS ls (lv_sub hl [0, 1] rfl)
      · skip
        refine lv_iload_n hx hb dX4_least_17 rfl (lv_at hl 0 rfl) ?_
        exact w_iret X hr hlk hS (by first | exact hz2 | (rw [← hz2]; simp [kLeastF, c_2, c_3]; done) | (simp [← hz2, kLeastF, c_2, c_3]; done) | (simp [kLeastF, c_2, c_3]; done)) hW dX4_least_18
  exact loop2 31 0 (by omega) rfl _ _ hW hS ls (lv_sub hl [0, 1] rfl)
set_option maxHeartbeats 4000000 in
set_option maxRecDepth 100000 in
theorem m_X2_foldOf (l : Launch) (G : k_G) (ad : Nat → Nat → Nat) (nA nK : Nat) (I : k_I) (J : k_J) (w : Int32) : k_Met l yX2_foldOf cX2_foldOf 2 (some FieldType.int) { frames := 0, cells := 0, slots := 0, locals := 0 } G [.ref (ad 1 0), .int w] (Wd G ad nA nK I J) (some (.int (kFoldOf I w))) (Wd G ad nA nK I J) 0 0 := by
  refine k_body (by decide) (Nat.le_of_ble_eq_true rfl) ?_
  intro p e s m below meth c ls X hr hlk hnm hW hS hl
  have hx := X.1.1
  have hb := X.1.2.1
  have hG := X.1.2.2.2.2
  have hl : lv_has ls 2 [(0, .ref (ad 1 0)), (1, .int w)] := hl
  refine lv_iload_n hx hb dX2_foldOf_0 rfl (lv_at hl 1 rfl) ?_
  refine lv_if_lt (tgt := 22) hx hb dX2_foldOf_1 (by decide) (fun c_1 => ?_) (fun c_1 => ?_)
  · skip
    refine lv_iconst (v := (-1)) hx hb dX2_foldOf_22 (by decide) ?_
    exact w_iret X hr hlk hS (by first | rfl | (simp [kFoldOf, c_1]; done)) hW dX2_foldOf_23
  · skip
    refine lv_iload_n hx hb dX2_foldOf_4 rfl (lv_at hl 1 rfl) ?_
    refine lv_aload_n hx hb dX2_foldOf_5 rfl (lv_at hl 0 rfl) ?_
    refine w_get X hW 1 0 Nat.zero_lt_one rfl rfl inG2 0 (by decide) g24 rfl dX2_foldOf_6 ?_
    refine w_alen X hW 2 0 Nat.zero_lt_one rfl 0 rfl (v := 40) rfl dX2_foldOf_9 ?_
    refine lv_icmp_ge (tgt := 22) hx hb dX2_foldOf_10 (by decide) (fun c_2 => ?_) (fun c_2 => ?_)
    · skip
      refine lv_iconst (v := (-1)) hx hb dX2_foldOf_22 (by decide) ?_
      exact w_iret X hr hlk hS (by first | rfl | (simp [kFoldOf, c_1, c_2]; done)) hW dX2_foldOf_23
    · skip
      refine lv_aload_n hx hb dX2_foldOf_13 rfl (lv_at hl 0 rfl) ?_
      refine w_get X hW 1 0 Nat.zero_lt_one rfl rfl inG2 0 (by decide) g24 rfl dX2_foldOf_14 ?_
      refine lv_iload_n hx hb dX2_foldOf_17 rfl (lv_at hl 1 rfl) ?_
      refine w_iald X hW 2 0 Nat.zero_lt_one rfl (k_in_a c_1 c_2 rfl) dX2_foldOf_18 ?_
      refine lv_goto (tgt := 23) hx hb dX2_foldOf_19 (by decide) ?_
      exact w_iret X hr hlk hS (by first | rfl | (simp [kFoldOf, c_1, c_2]; done)) hW dX2_foldOf_23
set_option maxHeartbeats 4000000 in
set_option maxRecDepth 100000 in
theorem m_X2_turn (l : Launch) (G : k_G) (ad : Nat → Nat → Nat) (nA nK : Nat) (I : k_I) (J : k_J) (w : Int32) (t : Int32) : k_Met l yX2_turn cX2_turn 3 none { frames := 0, cells := 0, slots := 0, locals := 0 } G [.ref (ad 1 0), .int w, .int t] (Wd G ad nA nK I J) (none) (Wd G ad nA nK (kTurn I w t) J) 0 0 := by
  refine k_body (by decide) (Nat.le_of_ble_eq_true rfl) ?_
  intro p e s m below meth c ls X hr hlk hnm hW hS hl
  have hx := X.1.1
  have hb := X.1.2.1
  have hG := X.1.2.2.2.2
  have hl : lv_has ls 3 [(0, .ref (ad 1 0)), (1, .int w), (2, .int t)] := hl
  refine lv_iload_n hx hb dX2_turn_0 rfl (lv_at hl 1 rfl) ?_
  refine lv_if_lt (tgt := 20) hx hb dX2_turn_1 (by decide) (fun c_1 => ?_) (fun c_1 => ?_)
  · skip
    exact w_vret X hr hlk hS (hW.to (by first | rfl | (simp [kTurn, c_1]; done)) rfl) dX2_turn_20
  · skip
    refine lv_iload_n hx hb dX2_turn_4 rfl (lv_at hl 1 rfl) ?_
    refine lv_aload_n hx hb dX2_turn_5 rfl (lv_at hl 0 rfl) ?_
    refine w_get X hW 1 0 Nat.zero_lt_one rfl rfl inG2 0 (by decide) g24 rfl dX2_turn_6 ?_
    refine w_alen X hW 2 0 Nat.zero_lt_one rfl 0 rfl (v := 40) rfl dX2_turn_9 ?_
    refine lv_icmp_ge (tgt := 20) hx hb dX2_turn_10 (by decide) (fun c_2 => ?_) (fun c_2 => ?_)
    · skip
      exact w_vret X hr hlk hS (hW.to (by first | rfl | (simp [kTurn, c_1, c_2]; done)) rfl) dX2_turn_20
    · skip
      refine lv_aload_n hx hb dX2_turn_13 rfl (lv_at hl 0 rfl) ?_
      refine w_get X hW 1 0 Nat.zero_lt_one rfl rfl inG2 0 (by decide) g24 rfl dX2_turn_14 ?_
      refine lv_iload_n hx hb dX2_turn_17 rfl (lv_at hl 1 rfl) ?_
      refine lv_iload_n hx hb dX2_turn_18 rfl (lv_at hl 2 rfl) ?_
      refine w_iast X hW hS 2 0 Nat.zero_lt_one rfl (k_in_a c_1 c_2 rfl) rfl dX2_turn_19 (fun H locs hW hS => ?_)
      obtain ⟨I3, eI3⟩ : ∃ z, z = k_up I 2 0 (upd (I 2 0) ((w).toNatClampNeg) t) := ⟨_, rfl⟩
      rw [← eI3] at hW
      exact w_vret X hr hlk hS (hW.to (by first | rfl | (simp [kTurn, c_1, c_2, eI3]; done)) rfl) dX2_turn_20
set_option maxHeartbeats 4000000 in
set_option maxRecDepth 100000 in
theorem m_X2_folded (l : Launch) (G : k_G) (ad : Nat → Nat → Nat) (nA nK : Nat) (I : k_I) (J : k_J) (x : Int64) : k_Met l yX2_folded cX2_folded 6 (some FieldType.long) { frames := 0, cells := 0, slots := 0, locals := 0 } G [.ref (ad 1 0), .long (x)] (Wd G ad nA nK I J) (some (.long (kFold (I 2 0) x))) (Wd G ad nA nK I J) 0 0 := by
  refine k_body (by decide) (Nat.le_of_ble_eq_true rfl) ?_
  intro p e s m below meth c ls X hr hlk hnm hW hS hl
  have hx := X.1.1
  have hb := X.1.2.1
  have hG := X.1.2.2.2.2
  have hl : lv_has ls 6 [(0, .ref (ad 1 0)), (1, .long (x))] := hl
  refine lv_lconst (v := 0) hx hb dX2_folded_0 (by decide) ?_
  refine lv_lstore_n (lv' := [(3, .long (0)), (0, .ref (ad 1 0)), (1, .long (x))]) hx hb dX2_folded_1 rfl hl (by decide) rfl (fun ls hl => ?_)
  refine lv_iconst (v := 0) hx hb dX2_folded_2 (by decide) ?_
  refine lv_istore (lv' := [(5, .int 0), (3, .long (0)), (0, .ref (ad 1 0)), (1, .long (x))]) hx hb dX2_folded_3 hl (by decide) rfl (fun ls hl => ?_)
  have loop5 : ∀ (d i : Nat) (r : Int64), i + d = 40 → (kLoop (kFoldStep (I 2 0) x) d i r = kFold (I 2 0) x) → ∀ (H : Heap) (locs : List Loc), Wd G ad nA nK I J H → va_S (k_A G) s.heap H locs → ∀ ls : Array Slot, lv_has ls 6 [(5, .int (nI i)), (3, .long (r)), (0, .ref (ad 1 0)), (1, .long (x))] → W p l e { frames := 0, cells := 0, slots := 0, locals := 0 } s m ([.ref (ad 1 0), .long (x)] : List Value).toArray below meth c H locs 0 0 (MQ below (k_Q G (some (.long (kFold (I 2 0) x))) (Wd G ad nA nK I J)) ([.ref (ad 1 0), .long (x)] : List Value).toArray s 0 0 (k_A G)) (F0 m 5 ls []) := by
    intro d
    induction d with
    | zero =>
      intro i r hi5 hz5  H locs hW hS ls hl
      refine lv_iload hx hb dX2_folded_5 (lv_at hl 0 rfl) ?_
      refine lv_aload_n hx hb dX2_folded_7 rfl (lv_at hl 2 rfl) ?_
      refine w_get X hW 1 0 Nat.zero_lt_one rfl rfl inG2 0 (by decide) g24 rfl dX2_folded_8 ?_
      refine w_alen X hW 2 0 Nat.zero_lt_one rfl 0 rfl (v := 40) rfl dX2_folded_11 ?_
      refine lv_icmp_ge (tgt := 44) hx hb dX2_folded_12 (by decide) (fun _ => ?_) (fun c_1 => absurd (nI_le (a := 40) (b := i) (by omega) (by omega)) c_1)
      refine lv_lload_n hx hb dX2_folded_44 rfl (lv_at hl 1 rfl) ?_
      exact w_lret X hr hlk hS (by first | exact hz5 | (rw [← hz5]; simp [kLoop, kFoldStep]; done) | (simp [← hz5, kLoop, kFoldStep]; done) | (simp [kLoop, kFoldStep]; done)) hW dX2_folded_45
    | succ d ih =>
      intro i r hi5 hz5  H locs hW hS ls hl
      have hlt5 : i < 40 := by omega
      have ih5 := ih
      refine lv_iload hx hb dX2_folded_5 (lv_at hl 0 rfl) ?_
      refine lv_aload_n hx hb dX2_folded_7 rfl (lv_at hl 2 rfl) ?_
      refine w_get X hW 1 0 Nat.zero_lt_one rfl rfl inG2 0 (by decide) g24 rfl dX2_folded_8 ?_
      refine w_alen X hW 2 0 Nat.zero_lt_one rfl 0 rfl (v := 40) rfl dX2_folded_11 ?_
      refine lv_icmp_ge (tgt := 44) hx hb dX2_folded_12 (by decide) (fun c_2 => absurd c_2 (nI_ge (a := i) (b := 40) (by omega) (by omega))) (fun _ => ?_)
      refine lv_lload_n hx hb dX2_folded_15 rfl (lv_at hl 3 rfl) ?_
      refine lv_lconst (v := 1) hx hb dX2_folded_16 (by decide) ?_
      refine lv_iload hx hb dX2_folded_17 (lv_at hl 0 rfl) ?_
      refine lv_lshl (v := 1 <<< (Int32.toInt64 (nI i) &&& 63)) hx hb dX2_folded_19 rfl ?_
      refine lv_land hx hb dX2_folded_20 ?_
      refine lv_lconst (v := 0) hx hb dX2_folded_21 (by decide) ?_
      refine W.lcmp hx hb dX2_folded_22 ?_
      refine lv_if_eq (tgt := 38) hx hb dX2_folded_23 (by decide) (fun c_3 => ?_) (fun c_3 => ?_)
      · skip
        rw [lg_cmp_eq] at c_3
        refine lv_iinc (v := nI (i + 1)) (lv' := [(5, .int (nI (i + 1))), (3, .long (r)), (0, .ref (ad 1 0)), (1, .long (x))]) hx hb dX2_folded_38 hl (k := 0) rfl (nI_1 i) (by decide) rfl (fun ls hl => ?_)
        refine lv_goto (tgt := 5) hx hb dX2_folded_41 (by decide) ?_
        exact ih5 (i + 1) r (by omega) (by first | exact hz5 | (rw [← hz5]; simp [kLoop, kFoldStep, c_3]; done) | (simp [← hz5, kLoop, kFoldStep, c_3]; done)) _ _ hW hS ls (lv_sub hl [0, 1, 2, 3] rfl)
      · skip
        rw [lg_cmp_eq] at c_3
        refine lv_lload_n hx hb dX2_folded_26 rfl (lv_at hl 1 rfl) ?_
        refine lv_lconst (v := 1) hx hb dX2_folded_27 (by decide) ?_
        refine lv_aload_n hx hb dX2_folded_28 rfl (lv_at hl 2 rfl) ?_
        refine w_get X hW 1 0 Nat.zero_lt_one rfl rfl inG2 0 (by decide) g24 rfl dX2_folded_29 ?_
        refine lv_iload hx hb dX2_folded_32 (lv_at hl 0 rfl) ?_
        refine w_ialdN (i := i) X hW 2 0 Nat.zero_lt_one rfl (by omega) dX2_folded_34 ?_
        refine lv_lshl (v := 1 <<< (Int32.toInt64 (I 2 0 i) &&& 63)) hx hb dX2_folded_35 rfl ?_
        refine lv_lor hx hb dX2_folded_36 ?_
        refine lv_topl (fun x4 ex4 => ?_)
        refine lv_lstore_n (lv' := [(3, .long (x4)), (5, .int (nI i)), (0, .ref (ad 1 0)), (1, .long (x))]) hx hb dX2_folded_37 rfl hl (by decide) rfl (fun ls hl => ?_)
        refine lv_iinc (v := nI (i + 1)) (lv' := [(5, .int (nI (i + 1))), (3, .long (x4)), (0, .ref (ad 1 0)), (1, .long (x))]) hx hb dX2_folded_38 hl (k := 1) rfl (nI_1 i) (by decide) rfl (fun ls hl => ?_)
        refine lv_goto (tgt := 5) hx hb dX2_folded_41 (by decide) ?_
        exact ih5 (i + 1) x4 (by omega) (by first | exact hz5 | (rw [← hz5]; simp [kLoop, kFoldStep, c_3, ex4]; done) | (simp [← hz5, kLoop, kFoldStep, c_3, ex4]; done)) _ _ hW hS ls (lv_sub hl [0, 1, 2, 3] rfl)
  exact loop5 40 0 0 (by omega) rfl _ _ hW hS ls (lv_sub hl [0, 1, 2, 3] rfl)
set_option maxHeartbeats 4000000 in
set_option maxRecDepth 100000 in
theorem m_X3_now (l : Launch) (G : k_G) (ad : Nat → Nat → Nat) (nA nK : Nat) (I : k_I) (J : k_J) : k_Met l yX3_now cX3_now 1 (some FieldType.int) { frames := 0, cells := 0, slots := 0, locals := 0 } G [.ref (ad 3 0)] (Wd G ad nA nK I J) (some (.int (I 3 0 2))) (Wd G ad nA nK I J) 0 0 := by
  refine k_body (by decide) (Nat.le_of_ble_eq_true rfl) ?_
  intro p e s m below meth c ls X hr hlk hnm hW hS hl
  have hx := X.1.1
  have hb := X.1.2.1
  have hG := X.1.2.2.2.2
  have hl : lv_has ls 1 [(0, .ref (ad 3 0))] := hl
  refine lv_aload_n hx hb dX3_now_0 rfl (lv_at hl 0 rfl) ?_
  refine w_get X hW 3 0 Nat.zero_lt_one rfl rfl inG3 2 (by decide) g37 rfl dX3_now_1 ?_
  exact w_iret X hr hlk hS (by first | rfl | (simp []; done)) hW dX3_now_4
set_option maxHeartbeats 4000000 in
set_option maxRecDepth 100000 in
theorem m_X3_isChangedSince (l : Launch) (G : k_G) (ad : Nat → Nat → Nat) (nA nK : Nat) (I : k_I) (J : k_J) (x : Int32) (t : Int32) : k_Met l yX3_isChangedSince cX3_isChangedSince 4 (some FieldType.boolean) { frames := 1, cells := 0, slots := 0, locals := 20 } G [.ref (ad 3 0), .int x, .int t] (Wd G ad nA nK I J) (some (.int (k_b (kChg I x t)))) (Wd G ad nA nK I J) 0 0 := by
  refine k_body (by decide) (Nat.le_of_ble_eq_true rfl) ?_
  intro p e s m below meth c ls X hr hlk hnm hW hS hl
  have hx := X.1.1
  have hb := X.1.2.1
  have hG := X.1.2.2.2.2
  have hl : lv_has ls 4 [(0, .ref (ad 3 0)), (1, .int x), (2, .int t)] := hl
  refine lv_iconst (v := 0) hx hb dX3_isChangedSince_0 (by decide) ?_
  refine lv_istore_n (lv' := [(3, .int 0), (0, .ref (ad 3 0)), (1, .int x), (2, .int t)]) hx hb dX3_isChangedSince_1 rfl hl (by decide) rfl (fun ls hl => ?_)
  have loop2 : ∀ (d i : Nat), i + d = 10 → (kAny (fun k => !decide (x &&& kBit (nI k) = 0) && !decide (I 5 0 k ≤ t)) d i = kChg I x t) → ∀ (H : Heap) (locs : List Loc), Wd G ad nA nK I J H → va_S (k_A G) s.heap H locs → ∀ ls : Array Slot, lv_has ls 4 [(3, .int (nI i)), (0, .ref (ad 3 0)), (1, .int x), (2, .int t)] → W p l e { frames := 1, cells := 0, slots := 0, locals := 20 } s m ([.ref (ad 3 0), .int x, .int t] : List Value).toArray below meth c H locs 0 0 (MQ below (k_Q G (some (.int (k_b (kChg I x t)))) (Wd G ad nA nK I J)) ([.ref (ad 3 0), .int x, .int t] : List Value).toArray s 0 0 (k_A G)) (F0 m 2 ls []) := by
    intro d
    induction d with
    | zero =>
      intro i hi2 hz2  H locs hW hS ls hl
      refine lv_iload_n hx hb dX3_isChangedSince_2 rfl (lv_at hl 0 rfl) ?_
      refine lv_aload_n hx hb dX3_isChangedSince_3 rfl (lv_at hl 1 rfl) ?_
      refine w_get X hW 3 0 Nat.zero_lt_one rfl rfl inG3 1 (by decide) g36 rfl dX3_isChangedSince_4 ?_
      refine w_alen X hW 5 0 Nat.zero_lt_one rfl 0 rfl (v := 10) rfl dX3_isChangedSince_7 ?_
      refine lv_icmp_ge (tgt := 38) hx hb dX3_isChangedSince_8 (by decide) (fun _ => ?_) (fun c_1 => absurd (nI_le (a := 10) (b := i) (by omega) (by omega)) c_1)
      refine lv_iconst (v := 0) hx hb dX3_isChangedSince_38 (by decide) ?_
      exact w_zret X hr hlk hS (by first | exact hz2 | (rw [← hz2]; simp [kAny, k_b]; done) | (simp [← hz2, kAny, k_b]; done) | (simp [kAny, k_b]; done)) (k_b_n _) hW dX3_isChangedSince_39
    | succ d ih =>
      intro i hi2 hz2  H locs hW hS ls hl
      have hlt2 : i < 10 := by omega
      have ih2 := ih
      refine lv_iload_n hx hb dX3_isChangedSince_2 rfl (lv_at hl 0 rfl) ?_
      refine lv_aload_n hx hb dX3_isChangedSince_3 rfl (lv_at hl 1 rfl) ?_
      refine w_get X hW 3 0 Nat.zero_lt_one rfl rfl inG3 1 (by decide) g36 rfl dX3_isChangedSince_4 ?_
      refine w_alen X hW 5 0 Nat.zero_lt_one rfl 0 rfl (v := 10) rfl dX3_isChangedSince_7 ?_
      refine lv_icmp_ge (tgt := 38) hx hb dX3_isChangedSince_8 (by decide) (fun c_2 => absurd c_2 (nI_ge (a := i) (b := 10) (by omega) (by omega))) (fun _ => ?_)
      refine lv_iload_n hx hb dX3_isChangedSince_11 rfl (lv_at hl 2 rfl) ?_
      refine lv_iload_n hx hb dX3_isChangedSince_12 rfl (lv_at hl 0 rfl) ?_
      refine w_cN1 X hS (m_X4_bit l G (Wd G ad nA nK I J) (nI i) ) rfl rfl g110 g1 X.2.2.2.2.1.2.1 g109 hd_X4_bit ⟨Nat.le_of_ble_eq_true rfl, Nat.le_of_ble_eq_true rfl⟩ hW hl.1 rfl (Nat.le_of_ble_eq_true rfl) dX3_isChangedSince_13 (Nat.zero_le _) (Nat.zero_le _) (fun H locs hW hS => ?_)
      refine lv_iand hx hb dX3_isChangedSince_16 ?_
      refine lv_if_eq (tgt := 32) hx hb dX3_isChangedSince_17 (by decide) (fun c_3 => ?_) (fun c_3 => ?_)
      · skip
        refine lv_iinc (v := nI (i + 1)) (lv' := [(3, .int (nI (i + 1))), (0, .ref (ad 3 0)), (1, .int x), (2, .int t)]) hx hb dX3_isChangedSince_32 hl (k := 0) rfl (nI_1 i) (by decide) rfl (fun ls hl => ?_)
        refine lv_goto (tgt := 2) hx hb dX3_isChangedSince_35 (by decide) ?_
        exact ih2 (i + 1) (by omega) (by first | exact hz2 | (rw [← hz2]; simp [kAny, k_b, c_3]; done) | (simp [← hz2, kAny, k_b, c_3]; done)) _ _ hW hS ls (lv_sub hl [0, 1, 2, 3] rfl)
      · skip
        refine lv_aload_n hx hb dX3_isChangedSince_20 rfl (lv_at hl 1 rfl) ?_
        refine w_get X hW 3 0 Nat.zero_lt_one rfl rfl inG3 1 (by decide) g36 rfl dX3_isChangedSince_21 ?_
        refine lv_iload_n hx hb dX3_isChangedSince_24 rfl (lv_at hl 0 rfl) ?_
        refine w_ialdN (i := i) X hW 5 0 Nat.zero_lt_one rfl (by omega) dX3_isChangedSince_25 ?_
        refine lv_iload_n hx hb dX3_isChangedSince_26 rfl (lv_at hl 3 rfl) ?_
        refine lv_icmp_le (tgt := 32) hx hb dX3_isChangedSince_27 (by decide) (fun c_4 => ?_) (fun c_4 => ?_)
        · skip
          refine lv_iinc (v := nI (i + 1)) (lv' := [(3, .int (nI (i + 1))), (0, .ref (ad 3 0)), (1, .int x), (2, .int t)]) hx hb dX3_isChangedSince_32 hl (k := 0) rfl (nI_1 i) (by decide) rfl (fun ls hl => ?_)
          refine lv_goto (tgt := 2) hx hb dX3_isChangedSince_35 (by decide) ?_
          exact ih2 (i + 1) (by omega) (by first | exact hz2 | (rw [← hz2]; simp [kAny, k_b, c_3, c_4]; done) | (simp [← hz2, kAny, k_b, c_3, c_4]; done)) _ _ hW hS ls (lv_sub hl [0, 1, 2, 3] rfl)
        · skip
          refine lv_iconst (v := 1) hx hb dX3_isChangedSince_30 (by decide) ?_
          exact w_zret X hr hlk hS (by first | exact hz2 | (rw [← hz2]; simp [kAny, k_b, c_3, c_4]; done) | (simp [← hz2, kAny, k_b, c_3, c_4]; done) | (simp [kAny, k_b, c_3, c_4]; done)) (k_b_n _) hW dX3_isChangedSince_31
  exact loop2 10 0 (by omega) rfl _ _ hW hS ls (lv_sub hl [0, 1, 2, 3] rfl)
set_option maxHeartbeats 4000000 in
set_option maxRecDepth 100000 in
theorem m_X0_isMoved (l : Launch) (G : k_G) (ad : Nat → Nat → Nat) (nA nK : Nat) (I : k_I) (J : k_J) (i : Nat) (hi : i < nA) : k_Met l yX0_isMoved cX0_isMoved 1 (some FieldType.boolean) { frames := 0, cells := 0, slots := 0, locals := 0 } G [.ref (ad 8 i)] (Wd G ad nA nK I J) (some (.int (k_b (kMoved I i)))) (Wd G ad nA nK I J) 0 0 := by
  refine k_body (by decide) (Nat.le_of_ble_eq_true rfl) ?_
  intro p e s m below meth c ls X hr hlk hnm hW hS hl
  have hx := X.1.1
  have hb := X.1.2.1
  have hG := X.1.2.2.2.2
  have hl : lv_has ls 1 [(0, .ref (ad 8 i))] := hl
  refine lv_aload_n hx hb dX0_isMoved_0 rfl (lv_at hl 0 rfl) ?_
  refine w_get X hW 8 i hi rfl rfl inG0 9 (by decide) g202 rfl dX0_isMoved_1 ?_
  refine lv_aload_n hx hb dX0_isMoved_4 rfl (lv_at hl 0 rfl) ?_
  refine w_get X hW 8 i hi rfl rfl inG0 0 (by decide) g186 rfl dX0_isMoved_5 ?_
  refine lv_icmp_eq (tgt := 15) hx hb dX0_isMoved_8 (by decide) (fun c_1 => ?_) (fun c_1 => ?_)
  · skip
    refine lv_iconst (v := 0) hx hb dX0_isMoved_15 (by decide) ?_
    exact w_zret X hr hlk hS (by first | rfl | (simp [kMoved, k_b, c_1]; done)) (k_b_n _) hW dX0_isMoved_16
  · skip
    refine lv_iconst (v := 1) hx hb dX0_isMoved_11 (by decide) ?_
    refine lv_goto (tgt := 16) hx hb dX0_isMoved_12 (by decide) ?_
    exact w_zret X hr hlk hS (by first | rfl | (simp [kMoved, k_b, c_1]; done)) (k_b_n _) hW dX0_isMoved_16
set_option maxHeartbeats 4000000 in
set_option maxRecDepth 100000 in
theorem m_X0_kindNow (l : Launch) (G : k_G) (ad : Nat → Nat → Nat) (nA nK : Nat) (I : k_I) (J : k_J) (i : Nat) (hi : i < nA) : k_Met l yX0_kindNow cX0_kindNow 1 (some FieldType.int) { frames := 1, cells := 0, slots := 0, locals := 20 } G [.ref (ad 8 i)] (Wd G ad nA nK I J) (some (.int (kKind I i))) (Wd G ad nA nK I J) 0 0 := by
  refine k_body (by decide) (Nat.le_of_ble_eq_true rfl) ?_
  intro p e s m below meth c ls X hr hlk hnm hW hS hl
  have hx := X.1.1
  have hb := X.1.2.1
  have hG := X.1.2.2.2.2
  have hl : lv_has ls 1 [(0, .ref (ad 8 i))] := hl
  refine lv_aload_n hx hb dX0_kindNow_0 rfl (lv_at hl 0 rfl) ?_
  refine w_cV1 X hS (m_X0_isMoved l G ad nA nK I J i hi) rfl rfl g274 g5 g271 g272 g273 hd_X0_isMoved ⟨Nat.le_of_ble_eq_true rfl, Nat.le_of_ble_eq_true rfl⟩ (k_rec X hW 8 i hi rfl rfl) hW hl.1 rfl (Nat.le_of_ble_eq_true rfl) dX0_kindNow_1 (Nat.zero_le _) (Nat.zero_le _) (fun H locs hW hS => ?_)
  refine lb_if_eq (tgt := 11) hx hb dX0_kindNow_4 (by decide) (fun c_1 => ?_) (fun c_1 => ?_)
  · skip
    refine lv_aload_n hx hb dX0_kindNow_11 rfl (lv_at hl 0 rfl) ?_
    refine w_get X hW 8 i hi rfl rfl inG0 1 (by decide) g188 rfl dX0_kindNow_12 ?_
    exact w_iret X hr hlk hS (by first | rfl | (simp [kKind, c_1]; done)) hW dX0_kindNow_15
  · skip
    refine lv_iconst (v := 2) hx hb dX0_kindNow_7 (by decide) ?_
    refine lv_goto (tgt := 15) hx hb dX0_kindNow_8 (by decide) ?_
    exact w_iret X hr hlk hS (by first | rfl | (simp [kKind, c_1]; done)) hW dX0_kindNow_15
set_option maxHeartbeats 4000000 in
set_option maxRecDepth 100000 in
theorem m_X0_isDoubted (l : Launch) (G : k_G) (ad : Nat → Nat → Nat) (nA nK : Nat) (I : k_I) (J : k_J) (i : Nat) (hi : i < nA) : k_Met l yX0_isDoubted cX0_isDoubted 1 (some FieldType.boolean) { frames := 1, cells := 0, slots := 0, locals := 20 } G [.ref (ad 8 i)] (Wd G ad nA nK I J) (some (.int (k_b (kDoubted I i)))) (Wd G ad nA nK I J) 0 0 := by
  refine k_body (by decide) (Nat.le_of_ble_eq_true rfl) ?_
  intro p e s m below meth c ls X hr hlk hnm hW hS hl
  have hx := X.1.1
  have hb := X.1.2.1
  have hG := X.1.2.2.2.2
  have hl : lv_has ls 1 [(0, .ref (ad 8 i))] := hl
  refine lv_aload_n hx hb dX0_isDoubted_0 rfl (lv_at hl 0 rfl) ?_
  refine w_get X hW 8 i hi rfl rfl inG0 11 (by decide) g206 rfl dX0_isDoubted_1 ?_
  refine lv_if_eq (tgt := 18) hx hb dX0_isDoubted_4 (by decide) (fun c_1 => ?_) (fun c_1 => ?_)
  · skip
    refine lv_iconst (v := 0) hx hb dX0_isDoubted_18 (by decide) ?_
    exact w_zret X hr hlk hS (by first | rfl | (simp [kDoubted, k_b, c_1]; done)) (k_b_n _) hW dX0_isDoubted_19
  · skip
    refine lv_aload_n hx hb dX0_isDoubted_7 rfl (lv_at hl 0 rfl) ?_
    refine w_cV1 X hS (m_X0_isMoved l G ad nA nK I J i hi) rfl rfl g274 g5 g271 g272 g273 hd_X0_isMoved ⟨Nat.le_of_ble_eq_true rfl, Nat.le_of_ble_eq_true rfl⟩ (k_rec X hW 8 i hi rfl rfl) hW hl.1 rfl (Nat.le_of_ble_eq_true rfl) dX0_isDoubted_8 (Nat.zero_le _) (Nat.zero_le _) (fun H locs hW hS => ?_)
    refine lb_if_ne (tgt := 18) hx hb dX0_isDoubted_11 (by decide) (fun c_2 => ?_) (fun c_2 => ?_)
    · skip
      refine lv_iconst (v := 0) hx hb dX0_isDoubted_18 (by decide) ?_
      exact w_zret X hr hlk hS (by first | rfl | (simp [kDoubted, k_b, c_1, c_2]; done)) (k_b_n _) hW dX0_isDoubted_19
    · skip
      refine lv_iconst (v := 1) hx hb dX0_isDoubted_14 (by decide) ?_
      refine lv_goto (tgt := 19) hx hb dX0_isDoubted_15 (by decide) ?_
      exact w_zret X hr hlk hS (by first | rfl | (simp [kDoubted, k_b, c_1, c_2]; done)) (k_b_n _) hW dX0_isDoubted_19
set_option maxHeartbeats 4000000 in
set_option maxRecDepth 100000 in
theorem m_X0_setOf (l : Launch) (G : k_G) (ad : Nat → Nat → Nat) (nA nK : Nat) (I : k_I) (J : k_J) (i : Nat) (a : Int32) (hi : i < nA) : k_Met l yX0_setOf cX0_setOf 2 (some FieldType.int) { frames := 0, cells := 0, slots := 0, locals := 0 } G [.ref (ad 8 i), .int a] (Wd G ad nA nK I J) (some (.int (kSet I i a))) (Wd G ad nA nK I J) 0 0 := by
  refine k_body (by decide) (Nat.le_of_ble_eq_true rfl) ?_
  intro p e s m below meth c ls X hr hlk hnm hW hS hl
  have hx := X.1.1
  have hb := X.1.2.1
  have hG := X.1.2.2.2.2
  have hl : lv_has ls 2 [(0, .ref (ad 8 i)), (1, .int a)] := hl
  refine lv_iload_n hx hb dX0_setOf_0 rfl (lv_at hl 1 rfl) ?_
  refine lv_if_lt (tgt := 22) hx hb dX0_setOf_1 (by decide) (fun c_1 => ?_) (fun c_1 => ?_)
  · skip
    refine lv_iconst (v := 0) hx hb dX0_setOf_22 (by decide) ?_
    exact w_iret X hr hlk hS (by first | rfl | (simp [kSet, c_1]; done)) hW dX0_setOf_23
  · skip
    refine lv_iload_n hx hb dX0_setOf_4 rfl (lv_at hl 1 rfl) ?_
    refine lv_aload_n hx hb dX0_setOf_5 rfl (lv_at hl 0 rfl) ?_
    refine w_get X hW 8 i hi rfl rfl inG0 3 (by decide) g192 rfl dX0_setOf_6 ?_
    refine w_alen X hW 9 i hi rfl 0 rfl (v := 3) rfl dX0_setOf_9 ?_
    refine lv_icmp_ge (tgt := 22) hx hb dX0_setOf_10 (by decide) (fun c_2 => ?_) (fun c_2 => ?_)
    · skip
      refine lv_iconst (v := 0) hx hb dX0_setOf_22 (by decide) ?_
      exact w_iret X hr hlk hS (by first | rfl | (simp [kSet, c_1, c_2]; done)) hW dX0_setOf_23
    · skip
      refine lv_aload_n hx hb dX0_setOf_13 rfl (lv_at hl 0 rfl) ?_
      refine w_get X hW 8 i hi rfl rfl inG0 3 (by decide) g192 rfl dX0_setOf_14 ?_
      refine lv_iload_n hx hb dX0_setOf_17 rfl (lv_at hl 1 rfl) ?_
      refine w_iald X hW 9 i hi rfl (k_in_a c_1 c_2 rfl) dX0_setOf_18 ?_
      refine lv_goto (tgt := 23) hx hb dX0_setOf_19 (by decide) ?_
      exact w_iret X hr hlk hS (by first | rfl | (simp [kSet, c_1, c_2]; done)) hW dX0_setOf_23
set_option maxHeartbeats 4000000 in
set_option maxRecDepth 100000 in
theorem m_X0_hasValue (l : Launch) (G : k_G) (ad : Nat → Nat → Nat) (nA nK : Nat) (I : k_I) (J : k_J) (i : Nat) (a : Int32) (v : Int32) (hi : i < nA) : k_Met l yX0_hasValue cX0_hasValue 3 (some FieldType.boolean) { frames := 1, cells := 0, slots := 0, locals := 21 } G [.ref (ad 8 i), .int a, .int v] (Wd G ad nA nK I J) (some (.int (k_b (kHas I i a v)))) (Wd G ad nA nK I J) 0 0 := by
  refine k_body (by decide) (Nat.le_of_ble_eq_true rfl) ?_
  intro p e s m below meth c ls X hr hlk hnm hW hS hl
  have hx := X.1.1
  have hb := X.1.2.1
  have hG := X.1.2.2.2.2
  have hl : lv_has ls 3 [(0, .ref (ad 8 i)), (1, .int a), (2, .int v)] := hl
  refine lv_aload_n hx hb dX0_hasValue_0 rfl (lv_at hl 0 rfl) ?_
  refine lv_iload_n hx hb dX0_hasValue_1 rfl (lv_at hl 1 rfl) ?_
  refine w_cV1 X hS (m_X0_setOf l G ad nA nK I J i a hi) rfl rfl g152 g5 g149 g150 g151 hd_X0_setOf ⟨Nat.le_of_ble_eq_true rfl, Nat.le_of_ble_eq_true rfl⟩ (k_rec X hW 8 i hi rfl rfl) hW hl.1 rfl (Nat.le_of_ble_eq_true rfl) dX0_hasValue_2 (Nat.zero_le _) (Nat.zero_le _) (fun H locs hW hS => ?_)
  refine lv_iload_n hx hb dX0_hasValue_5 rfl (lv_at hl 2 rfl) ?_
  refine w_cN1 X hS (m_X4_bit l G (Wd G ad nA nK I J) v ) rfl rfl g110 g1 X.2.2.2.2.1.2.2.2 g109 hd_X4_bit ⟨Nat.le_of_ble_eq_true rfl, Nat.le_of_ble_eq_true rfl⟩ hW hl.1 rfl (Nat.le_of_ble_eq_true rfl) dX0_hasValue_6 (Nat.zero_le _) (Nat.zero_le _) (fun H locs hW hS => ?_)
  refine lv_iand hx hb dX0_hasValue_9 ?_
  refine lv_if_eq (tgt := 17) hx hb dX0_hasValue_10 (by decide) (fun c_1 => ?_) (fun c_1 => ?_)
  · skip
    refine lv_iconst (v := 0) hx hb dX0_hasValue_17 (by decide) ?_
    exact w_zret X hr hlk hS (by first | rfl | (simp [kHas, k_b, c_1]; done)) (k_b_n _) hW dX0_hasValue_18
  · skip
    refine lv_iconst (v := 1) hx hb dX0_hasValue_13 (by decide) ?_
    refine lv_goto (tgt := 18) hx hb dX0_hasValue_14 (by decide) ?_
    exact w_zret X hr hlk hS (by first | rfl | (simp [kHas, k_b, c_1]; done)) (k_b_n _) hW dX0_hasValue_18
set_option maxHeartbeats 4000000 in
set_option maxRecDepth 100000 in
theorem m_X0_partAt (l : Launch) (G : k_G) (ad : Nat → Nat → Nat) (nA nK : Nat) (I : k_I) (J : k_J) (i : Nat) (k : Int32) (hi : i < nA) : k_Met l yX0_partAt cX0_partAt 2 (some FieldType.int) { frames := 0, cells := 0, slots := 0, locals := 0 } G [.ref (ad 8 i), .int k] (Wd G ad nA nK I J) (some (.int (kPart I i k))) (Wd G ad nA nK I J) 0 0 := by
  refine k_body (by decide) (Nat.le_of_ble_eq_true rfl) ?_
  intro p e s m below meth c ls X hr hlk hnm hW hS hl
  have hx := X.1.1
  have hb := X.1.2.1
  have hG := X.1.2.2.2.2
  have hl : lv_has ls 2 [(0, .ref (ad 8 i)), (1, .int k)] := hl
  refine lv_iload_n hx hb dX0_partAt_0 rfl (lv_at hl 1 rfl) ?_
  refine lv_if_lt (tgt := 22) hx hb dX0_partAt_1 (by decide) (fun c_1 => ?_) (fun c_1 => ?_)
  · skip
    refine lv_iconst (v := (-1)) hx hb dX0_partAt_22 (by decide) ?_
    exact w_iret X hr hlk hS (by first | rfl | (simp [kPart, c_1]; done)) hW dX0_partAt_23
  · skip
    refine lv_iload_n hx hb dX0_partAt_4 rfl (lv_at hl 1 rfl) ?_
    refine lv_aload_n hx hb dX0_partAt_5 rfl (lv_at hl 0 rfl) ?_
    refine w_get X hW 8 i hi rfl rfl inG0 4 (by decide) g193 rfl dX0_partAt_6 ?_
    refine w_alen X hW 10 i hi rfl 0 rfl (v := 4) rfl dX0_partAt_9 ?_
    refine lv_icmp_ge (tgt := 22) hx hb dX0_partAt_10 (by decide) (fun c_2 => ?_) (fun c_2 => ?_)
    · skip
      refine lv_iconst (v := (-1)) hx hb dX0_partAt_22 (by decide) ?_
      exact w_iret X hr hlk hS (by first | rfl | (simp [kPart, c_1, c_2]; done)) hW dX0_partAt_23
    · skip
      refine lv_aload_n hx hb dX0_partAt_13 rfl (lv_at hl 0 rfl) ?_
      refine w_get X hW 8 i hi rfl rfl inG0 4 (by decide) g193 rfl dX0_partAt_14 ?_
      refine lv_iload_n hx hb dX0_partAt_17 rfl (lv_at hl 1 rfl) ?_
      refine w_iald X hW 10 i hi rfl (k_in_a c_1 c_2 rfl) dX0_partAt_18 ?_
      refine lv_goto (tgt := 23) hx hb dX0_partAt_19 (by decide) ?_
      exact w_iret X hr hlk hS (by first | rfl | (simp [kPart, c_1, c_2]; done)) hW dX0_partAt_23
set_option maxHeartbeats 4000000 in
set_option maxRecDepth 100000 in
theorem m_X1_valueFor (l : Launch) (G : k_G) (ad : Nat → Nat → Nat) (nA nK : Nat) (I : k_I) (J : k_J) (q : Nat) (a : Int32) (hq : q < nK) : k_Met l yX1_valueFor cX1_valueFor 2 (some FieldType.int) { frames := 0, cells := 0, slots := 0, locals := 0 } G [.ref (ad 11 q), .int a] (Wd G ad nA nK I J) (some (.int (kVal I q a))) (Wd G ad nA nK I J) 0 0 := by
  refine k_body (by decide) (Nat.le_of_ble_eq_true rfl) ?_
  intro p e s m below meth c ls X hr hlk hnm hW hS hl
  have hx := X.1.1
  have hb := X.1.2.1
  have hG := X.1.2.2.2.2
  have hl : lv_has ls 2 [(0, .ref (ad 11 q)), (1, .int a)] := hl
  refine lv_iload_n hx hb dX1_valueFor_0 rfl (lv_at hl 1 rfl) ?_
  refine lv_if_lt (tgt := 22) hx hb dX1_valueFor_1 (by decide) (fun c_1 => ?_) (fun c_1 => ?_)
  · skip
    refine lv_iconst (v := (-1)) hx hb dX1_valueFor_22 (by decide) ?_
    exact w_iret X hr hlk hS (by first | rfl | (simp [kVal, c_1]; done)) hW dX1_valueFor_23
  · skip
    refine lv_iload_n hx hb dX1_valueFor_4 rfl (lv_at hl 1 rfl) ?_
    refine lv_aload_n hx hb dX1_valueFor_5 rfl (lv_at hl 0 rfl) ?_
    refine w_get X hW 11 q hq rfl rfl inG1 1 (by decide) g450 rfl dX1_valueFor_6 ?_
    refine w_alen X hW 12 q hq rfl 0 rfl (v := 3) rfl dX1_valueFor_9 ?_
    refine lv_icmp_ge (tgt := 22) hx hb dX1_valueFor_10 (by decide) (fun c_2 => ?_) (fun c_2 => ?_)
    · skip
      refine lv_iconst (v := (-1)) hx hb dX1_valueFor_22 (by decide) ?_
      exact w_iret X hr hlk hS (by first | rfl | (simp [kVal, c_1, c_2]; done)) hW dX1_valueFor_23
    · skip
      refine lv_aload_n hx hb dX1_valueFor_13 rfl (lv_at hl 0 rfl) ?_
      refine w_get X hW 11 q hq rfl rfl inG1 1 (by decide) g450 rfl dX1_valueFor_14 ?_
      refine lv_iload_n hx hb dX1_valueFor_17 rfl (lv_at hl 1 rfl) ?_
      refine w_iald X hW 12 q hq rfl (k_in_a c_1 c_2 rfl) dX1_valueFor_18 ?_
      refine lv_goto (tgt := 23) hx hb dX1_valueFor_19 (by decide) ?_
      exact w_iret X hr hlk hS (by first | rfl | (simp [kVal, c_1, c_2]; done)) hW dX1_valueFor_23
end
section
set_option maxHeartbeats 4000000 in
set_option maxRecDepth 100000 in
theorem m_J6_bitCount_0f7a4 (l : Launch) (G : k_G) (PW : Heap → Prop) (x : Int32) : k_Met l yJ6_bitCount_0f7a4 cJ6_bitCount_0f7a4 1 (some FieldType.int) { frames := 0, cells := 0, slots := 0, locals := 0 } G [.int x] (PW) (some (.int (kBC32 x))) (PW) 0 0 := by
  refine k_body (by decide) (Nat.le_of_ble_eq_true rfl) ?_
  intro p e s m below meth c ls X hr hlk hnm hW hS hl
  have hx := X.1.1
  have hb := X.1.2.1
  have hG := X.1.2.2.2.2
  have hl : lv_has ls 1 [(0, .int x)] := hl
  refine lv_iload_n hx hb dJ6_bitCount_0f7a4_0 rfl (lv_at hl 0 rfl) ?_
  refine lv_iload_n hx hb dJ6_bitCount_0f7a4_1 rfl (lv_at hl 0 rfl) ?_
  refine lv_iconst (v := 1) hx hb dJ6_bitCount_0f7a4_2 (by decide) ?_
  refine lv_iushr (v := (x.toUInt32 >>> (Int32.toUInt32 1 &&& Int32.toUInt32 31)).toInt32) hx hb dJ6_bitCount_0f7a4_3 rfl ?_
  refine lv_topi (fun x1 ex1 => ?_)
  refine lv_ldcw hx hb X.1.2.2.2.1 (hG _ g260) dJ6_bitCount_0f7a4_4 ?_
  refine lv_iand hx hb dJ6_bitCount_0f7a4_7 ?_
  refine lv_isub hx hb dJ6_bitCount_0f7a4_8 ?_
  refine lv_istore_n (lv' := [(0, .int (x - (x1 &&& 1431655765)))]) hx hb dJ6_bitCount_0f7a4_9 rfl hl (by decide) rfl (fun ls hl => ?_)
  refine lv_iload_n hx hb dJ6_bitCount_0f7a4_10 rfl (lv_at hl 0 rfl) ?_
  refine lv_ldcw hx hb X.1.2.2.2.1 (hG _ g261) dJ6_bitCount_0f7a4_11 ?_
  refine lv_iand hx hb dJ6_bitCount_0f7a4_14 ?_
  refine lv_iload_n hx hb dJ6_bitCount_0f7a4_15 rfl (lv_at hl 0 rfl) ?_
  refine lv_iconst (v := 2) hx hb dJ6_bitCount_0f7a4_16 (by decide) ?_
  refine lv_iushr (v := ((x - (x1 &&& 1431655765)).toUInt32 >>> (Int32.toUInt32 2 &&& Int32.toUInt32 31)).toInt32) hx hb dJ6_bitCount_0f7a4_17 rfl ?_
  refine lv_topi (fun x2 ex2 => ?_)
  refine lv_ldcw hx hb X.1.2.2.2.1 (hG _ g261) dJ6_bitCount_0f7a4_18 ?_
  refine lv_iand hx hb dJ6_bitCount_0f7a4_21 ?_
  refine lv_iadd hx hb dJ6_bitCount_0f7a4_22 ?_
  refine lv_topi (fun x3 ex3 => ?_)
  refine lv_istore_n (lv' := [(0, .int x3)]) hx hb dJ6_bitCount_0f7a4_23 rfl hl (by decide) rfl (fun ls hl => ?_)
  refine lv_iload_n hx hb dJ6_bitCount_0f7a4_24 rfl (lv_at hl 0 rfl) ?_
  refine lv_iload_n hx hb dJ6_bitCount_0f7a4_25 rfl (lv_at hl 0 rfl) ?_
  refine lv_iconst (v := 4) hx hb dJ6_bitCount_0f7a4_26 (by decide) ?_
  refine lv_iushr (v := (x3.toUInt32 >>> (Int32.toUInt32 4 &&& Int32.toUInt32 31)).toInt32) hx hb dJ6_bitCount_0f7a4_27 rfl ?_
  refine lv_topi (fun x4 ex4 => ?_)
  refine lv_iadd hx hb dJ6_bitCount_0f7a4_28 ?_
  refine lv_ldcw hx hb X.1.2.2.2.1 (hG _ g262) dJ6_bitCount_0f7a4_29 ?_
  refine lv_iand hx hb dJ6_bitCount_0f7a4_32 ?_
  refine lv_istore_n (lv' := [(0, .int ((x3 + x4) &&& 252645135))]) hx hb dJ6_bitCount_0f7a4_33 rfl hl (by decide) rfl (fun ls hl => ?_)
  refine lv_iload_n hx hb dJ6_bitCount_0f7a4_34 rfl (lv_at hl 0 rfl) ?_
  refine lv_iload_n hx hb dJ6_bitCount_0f7a4_35 rfl (lv_at hl 0 rfl) ?_
  refine lv_bipush (v := 8) hx hb dJ6_bitCount_0f7a4_36 (by decide) ?_
  refine lv_iushr (v := (((x3 + x4) &&& 252645135).toUInt32 >>> (Int32.toUInt32 8 &&& Int32.toUInt32 31)).toInt32) hx hb dJ6_bitCount_0f7a4_38 rfl ?_
  refine lv_topi (fun x5 ex5 => ?_)
  refine lv_iadd hx hb dJ6_bitCount_0f7a4_39 ?_
  refine lv_istore_n (lv' := [(0, .int (((x3 + x4) &&& 252645135) + x5))]) hx hb dJ6_bitCount_0f7a4_40 rfl hl (by decide) rfl (fun ls hl => ?_)
  refine lv_iload_n hx hb dJ6_bitCount_0f7a4_41 rfl (lv_at hl 0 rfl) ?_
  refine lv_iload_n hx hb dJ6_bitCount_0f7a4_42 rfl (lv_at hl 0 rfl) ?_
  refine lv_bipush (v := 16) hx hb dJ6_bitCount_0f7a4_43 (by decide) ?_
  refine lv_iushr (v := ((((x3 + x4) &&& 252645135) + x5).toUInt32 >>> (Int32.toUInt32 16 &&& Int32.toUInt32 31)).toInt32) hx hb dJ6_bitCount_0f7a4_45 rfl ?_
  refine lv_topi (fun x6 ex6 => ?_)
  refine lv_iadd hx hb dJ6_bitCount_0f7a4_46 ?_
  refine lv_istore_n (lv' := [(0, .int ((((x3 + x4) &&& 252645135) + x5) + x6))]) hx hb dJ6_bitCount_0f7a4_47 rfl hl (by decide) rfl (fun ls hl => ?_)
  refine lv_iload_n hx hb dJ6_bitCount_0f7a4_48 rfl (lv_at hl 0 rfl) ?_
  refine lv_bipush (v := 63) hx hb dJ6_bitCount_0f7a4_49 (by decide) ?_
  refine lv_iand hx hb dJ6_bitCount_0f7a4_51 ?_
  refine lv_topi (fun x7 ex7 => ?_)
  exact w_iret X hr hlk hS (by subst_vars; rfl) hW dJ6_bitCount_0f7a4_52
set_option maxHeartbeats 4000000 in
set_option maxRecDepth 100000 in
theorem m_J13_bitCount_95d88 (l : Launch) (G : k_G) (PW : Heap → Prop) (x : Int64) : k_Met l yJ13_bitCount_95d88 cJ13_bitCount_95d88 2 (some FieldType.int) { frames := 0, cells := 0, slots := 0, locals := 0 } G [.long (x)] (PW) (some (.int (kBC64 x))) (PW) 0 0 := by
  refine k_body (by decide) (Nat.le_of_ble_eq_true rfl) ?_
  intro p e s m below meth c ls X hr hlk hnm hW hS hl
  have hx := X.1.1
  have hb := X.1.2.1
  have hG := X.1.2.2.2.2
  have hl : lv_has ls 2 [(0, .long (x))] := hl
  refine lv_lload_n hx hb dJ13_bitCount_95d88_0 rfl (lv_at hl 0 rfl) ?_
  refine lv_lload_n hx hb dJ13_bitCount_95d88_1 rfl (lv_at hl 0 rfl) ?_
  refine lv_iconst (v := 1) hx hb dJ13_bitCount_95d88_2 (by decide) ?_
  refine lv_lushr (v := (x.toUInt64 >>> ((Int32.toInt64 1).toUInt64 &&& Int64.toUInt64 63)).toInt64) hx hb dJ13_bitCount_95d88_3 rfl ?_
  refine lv_topl (fun x1 ex1 => ?_)
  refine lv_ldc2 hx hb X.1.2.2.2.1 (hG _ g380) dJ13_bitCount_95d88_4 ?_
  refine lv_land hx hb dJ13_bitCount_95d88_7 ?_
  refine lv_lsub hx hb dJ13_bitCount_95d88_8 ?_
  refine lv_lstore_n (lv' := [(0, .long (x - (x1 &&& 6148914691236517205)))]) hx hb dJ13_bitCount_95d88_9 rfl hl (by decide) rfl (fun ls hl => ?_)
  refine lv_lload_n hx hb dJ13_bitCount_95d88_10 rfl (lv_at hl 0 rfl) ?_
  refine lv_ldc2 hx hb X.1.2.2.2.1 (hG _ g381) dJ13_bitCount_95d88_11 ?_
  refine lv_land hx hb dJ13_bitCount_95d88_14 ?_
  refine lv_topl (fun x2 ex2 => ?_)
  refine lv_lload_n hx hb dJ13_bitCount_95d88_15 rfl (lv_at hl 0 rfl) ?_
  refine lv_iconst (v := 2) hx hb dJ13_bitCount_95d88_16 (by decide) ?_
  refine lv_lushr (v := ((x - (x1 &&& 6148914691236517205)).toUInt64 >>> ((Int32.toInt64 2).toUInt64 &&& Int64.toUInt64 63)).toInt64) hx hb dJ13_bitCount_95d88_17 rfl ?_
  refine lv_topl (fun x3 ex3 => ?_)
  refine lv_ldc2 hx hb X.1.2.2.2.1 (hG _ g381) dJ13_bitCount_95d88_18 ?_
  refine lv_land hx hb dJ13_bitCount_95d88_21 ?_
  refine lv_ladd hx hb dJ13_bitCount_95d88_22 ?_
  refine lv_lstore_n (lv' := [(0, .long (x2 + (x3 &&& 3689348814741910323)))]) hx hb dJ13_bitCount_95d88_23 rfl hl (by decide) rfl (fun ls hl => ?_)
  refine lv_lload_n hx hb dJ13_bitCount_95d88_24 rfl (lv_at hl 0 rfl) ?_
  refine lv_lload_n hx hb dJ13_bitCount_95d88_25 rfl (lv_at hl 0 rfl) ?_
  refine lv_iconst (v := 4) hx hb dJ13_bitCount_95d88_26 (by decide) ?_
  refine lv_lushr (v := ((x2 + (x3 &&& 3689348814741910323)).toUInt64 >>> ((Int32.toInt64 4).toUInt64 &&& Int64.toUInt64 63)).toInt64) hx hb dJ13_bitCount_95d88_27 rfl ?_
  refine lv_topl (fun x4 ex4 => ?_)
  refine lv_ladd hx hb dJ13_bitCount_95d88_28 ?_
  refine lv_ldc2 hx hb X.1.2.2.2.1 (hG _ g382) dJ13_bitCount_95d88_29 ?_
  refine lv_land hx hb dJ13_bitCount_95d88_32 ?_
  refine lv_topl (fun x5 ex5 => ?_)
  refine lv_lstore_n (lv' := [(0, .long (x5))]) hx hb dJ13_bitCount_95d88_33 rfl hl (by decide) rfl (fun ls hl => ?_)
  refine lv_lload_n hx hb dJ13_bitCount_95d88_34 rfl (lv_at hl 0 rfl) ?_
  refine lv_lload_n hx hb dJ13_bitCount_95d88_35 rfl (lv_at hl 0 rfl) ?_
  refine lv_bipush (v := 8) hx hb dJ13_bitCount_95d88_36 (by decide) ?_
  refine lv_lushr (v := (x5.toUInt64 >>> ((Int32.toInt64 8).toUInt64 &&& Int64.toUInt64 63)).toInt64) hx hb dJ13_bitCount_95d88_38 rfl ?_
  refine lv_topl (fun x6 ex6 => ?_)
  refine lv_ladd hx hb dJ13_bitCount_95d88_39 ?_
  refine lv_lstore_n (lv' := [(0, .long (x5 + x6))]) hx hb dJ13_bitCount_95d88_40 rfl hl (by decide) rfl (fun ls hl => ?_)
  refine lv_lload_n hx hb dJ13_bitCount_95d88_41 rfl (lv_at hl 0 rfl) ?_
  refine lv_lload_n hx hb dJ13_bitCount_95d88_42 rfl (lv_at hl 0 rfl) ?_
  refine lv_bipush (v := 16) hx hb dJ13_bitCount_95d88_43 (by decide) ?_
  refine lv_lushr (v := ((x5 + x6).toUInt64 >>> ((Int32.toInt64 16).toUInt64 &&& Int64.toUInt64 63)).toInt64) hx hb dJ13_bitCount_95d88_45 rfl ?_
  refine lv_topl (fun x7 ex7 => ?_)
  refine lv_ladd hx hb dJ13_bitCount_95d88_46 ?_
  refine lv_lstore_n (lv' := [(0, .long ((x5 + x6) + x7))]) hx hb dJ13_bitCount_95d88_47 rfl hl (by decide) rfl (fun ls hl => ?_)
  refine lv_lload_n hx hb dJ13_bitCount_95d88_48 rfl (lv_at hl 0 rfl) ?_
  refine lv_lload_n hx hb dJ13_bitCount_95d88_49 rfl (lv_at hl 0 rfl) ?_
  refine lv_bipush (v := 32) hx hb dJ13_bitCount_95d88_50 (by decide) ?_
  refine lv_lushr (v := (((x5 + x6) + x7).toUInt64 >>> ((Int32.toInt64 32).toUInt64 &&& Int64.toUInt64 63)).toInt64) hx hb dJ13_bitCount_95d88_52 rfl ?_
  refine lv_topl (fun x8 ex8 => ?_)
  refine lv_ladd hx hb dJ13_bitCount_95d88_53 ?_
  refine lv_lstore_n (lv' := [(0, .long (((x5 + x6) + x7) + x8))]) hx hb dJ13_bitCount_95d88_54 rfl hl (by decide) rfl (fun ls hl => ?_)
  refine lv_lload_n hx hb dJ13_bitCount_95d88_55 rfl (lv_at hl 0 rfl) ?_
  refine lv_l2i (v := Int64.toInt32 (((x5 + x6) + x7) + x8)) hx hb dJ13_bitCount_95d88_56 rfl ?_
  refine lv_bipush (v := 127) hx hb dJ13_bitCount_95d88_57 (by decide) ?_
  refine lv_iand hx hb dJ13_bitCount_95d88_59 ?_
  refine lv_topi (fun x9 ex9 => ?_)
  exact w_iret X hr hlk hS (by subst_vars; rfl) hW dJ13_bitCount_95d88_60
set_option maxHeartbeats 4000000 in
set_option maxRecDepth 100000 in
theorem m_X4_far (l : Launch) (G : k_G) (PW : Heap → Prop) (x : Int64) (y : Int64) : k_Met l yX4_far cX4_far 4 (some FieldType.int) { frames := 1, cells := 0, slots := 0, locals := 21 } G [.long (x), .long (y)] (PW) (some (.int (kFar x y))) (PW) 0 0 := by
  refine k_body (by decide) (Nat.le_of_ble_eq_true rfl) ?_
  intro p e s m below meth c ls X hr hlk hnm hW hS hl
  have hx := X.1.1
  have hb := X.1.2.1
  have hG := X.1.2.2.2.2
  have hl : lv_has ls 4 [(0, .long (x)), (2, .long (y))] := hl
  refine lv_lload_n hx hb dX4_far_0 rfl (lv_at hl 0 rfl) ?_
  refine lv_lload_n hx hb dX4_far_1 rfl (lv_at hl 1 rfl) ?_
  refine lv_lxor hx hb dX4_far_2 ?_
  refine w_cS1 X hS (m_J13_bitCount_95d88 l G (PW) (x ^^^ y) ) rfl rfl g379 g8 g377 g378 hd_J13_bitCount_95d88 ⟨Nat.le_of_ble_eq_true rfl, Nat.le_of_ble_eq_true rfl⟩ hW hl.1 rfl (Nat.le_of_ble_eq_true rfl) dX4_far_3 (Nat.zero_le _) (Nat.zero_le _) (fun H locs hW hS => ?_)
  exact w_iret X hr hlk hS (by first | rfl | (simp []; done)) hW dX4_far_6
set_option maxHeartbeats 4000000 in
set_option maxRecDepth 100000 in
theorem m_X4_answerAt (l : Launch) (G : k_G) (ad : Nat → Nat → Nat) (nA nK : Nat) (I : k_I) (J : k_J) (a : Int32) (hs : k_S nA nK I) : k_Met l yX4_answerAt cX4_answerAt 2 (some (FieldType.object "AnswerKeeper$Answer")) { frames := 0, cells := 0, slots := 0, locals := 0 } G [.ref (ad 0 0), .int a] (Wd G ad nA nK I J) (some (va_rf (Option.map (ad 8) (kAns nA a)))) (Wd G ad nA nK I J) 0 0 := by
  refine k_body (by decide) (Nat.le_of_ble_eq_true rfl) ?_
  intro p e s m below meth c ls X hr hlk hnm hW hS hl
  have hx := X.1.1
  have hb := X.1.2.1
  have hG := X.1.2.2.2.2
  have hA24 := hs.2.2.1
  have hK30 := hs.2.2.2.1
  have hl : lv_has ls 2 [(0, .ref (ad 0 0)), (1, .int a)] := hl
  refine lv_iload_n hx hb dX4_answerAt_0 rfl (lv_at hl 1 rfl) ?_
  refine lv_if_lt (tgt := 30) hx hb dX4_answerAt_1 (by decide) (fun c_1 => ?_) (fun c_1 => ?_)
  · skip
    refine lv_null hx hb dX4_answerAt_30 ?_
    exact w_aret X hr hlk hS (by simp [kAns, c_1]; try rfl) hW dX4_answerAt_31
  · skip
    refine lv_iload_n hx hb dX4_answerAt_4 rfl (lv_at hl 1 rfl) ?_
    refine lv_aload_n hx hb dX4_answerAt_5 rfl (lv_at hl 0 rfl) ?_
    refine w_get (v := .int (nI nA)) X hW 0 0 Nat.zero_lt_one rfl rfl inG4 4 (by decide) g53 (congrArg (fun z => some (Value.int z)) hs.1) dX4_answerAt_6 ?_
    refine lv_icmp_ge (tgt := 30) hx hb dX4_answerAt_9 (by decide) (fun c_2 => ?_) (fun c_2 => ?_)
    · skip
      refine lv_null hx hb dX4_answerAt_30 ?_
      exact w_aret X hr hlk hS (by simp [kAns, c_1, c_2]; try rfl) hW dX4_answerAt_31
    · skip
      refine lv_iload_n hx hb dX4_answerAt_12 rfl (lv_at hl 1 rfl) ?_
      refine lv_aload_n hx hb dX4_answerAt_13 rfl (lv_at hl 0 rfl) ?_
      refine w_get X hW 0 0 Nat.zero_lt_one rfl rfl inG4 2 (by decide) g51 rfl dX4_answerAt_14 ?_
      refine w_alen X hW 6 0 Nat.zero_lt_one rfl 3 rfl (v := 24) rfl dX4_answerAt_17 ?_
      refine lv_icmp_ge (tgt := 30) hx hb dX4_answerAt_18 (by decide) (fun c_3 => ?_) (fun c_3 => ?_)
      · skip
        refine lv_null hx hb dX4_answerAt_30 ?_
        exact w_aret X hr hlk hS ((kAns_x (a := a) (N := 24) hA24 (by decide) c_2 c_3).elim) hW dX4_answerAt_31
      · skip
        refine lv_aload_n hx hb dX4_answerAt_21 rfl (lv_at hl 0 rfl) ?_
        refine w_get X hW 0 0 Nat.zero_lt_one rfl rfl inG4 2 (by decide) g51 rfl dX4_answerAt_22 ?_
        refine lv_iload_n hx hb dX4_answerAt_25 rfl (lv_at hl 1 rfl) ?_
        have hin : vp_in a 24 := (k_in_a c_1 c_3 rfl)
        have hq : kAns nA a = some a.toNatClampNeg := by simp [kAns, c_1, c_2, c_3]
        have hf := hs.2.2.2.2.1 a.toNatClampNeg (kAns_b hq)
        refine w_aald X hW 6 0 Nat.zero_lt_one rfl 3 rfl hin dX4_answerAt_26 ?_
        rw [if_neg hf]
        refine lv_goto (tgt := 31) hx hb dX4_answerAt_27 (by decide) ?_
        exact w_aret X hr hlk hS (by rw [hq]; rfl) hW dX4_answerAt_31
set_option maxHeartbeats 4000000 in
set_option maxRecDepth 100000 in
theorem m_X4_askAt (l : Launch) (G : k_G) (ad : Nat → Nat → Nat) (nA nK : Nat) (I : k_I) (J : k_J) (a : Int32) (hs : k_S nA nK I) : k_Met l yX4_askAt cX4_askAt 2 (some (FieldType.object "AnswerKeeper$Ask")) { frames := 0, cells := 0, slots := 0, locals := 0 } G [.ref (ad 0 0), .int a] (Wd G ad nA nK I J) (some (va_rf (Option.map (ad 11) (kAns nK a)))) (Wd G ad nA nK I J) 0 0 := by
  refine k_body (by decide) (Nat.le_of_ble_eq_true rfl) ?_
  intro p e s m below meth c ls X hr hlk hnm hW hS hl
  have hx := X.1.1
  have hb := X.1.2.1
  have hG := X.1.2.2.2.2
  have hA24 := hs.2.2.1
  have hK30 := hs.2.2.2.1
  have hl : lv_has ls 2 [(0, .ref (ad 0 0)), (1, .int a)] := hl
  refine lv_iload_n hx hb dX4_askAt_0 rfl (lv_at hl 1 rfl) ?_
  refine lv_if_lt (tgt := 30) hx hb dX4_askAt_1 (by decide) (fun c_1 => ?_) (fun c_1 => ?_)
  · skip
    refine lv_null hx hb dX4_askAt_30 ?_
    exact w_aret X hr hlk hS (by simp [kAns, c_1]; try rfl) hW dX4_askAt_31
  · skip
    refine lv_iload_n hx hb dX4_askAt_4 rfl (lv_at hl 1 rfl) ?_
    refine lv_aload_n hx hb dX4_askAt_5 rfl (lv_at hl 0 rfl) ?_
    refine w_get (v := .int (nI nK)) X hW 0 0 Nat.zero_lt_one rfl rfl inG4 5 (by decide) g54 (congrArg (fun z => some (Value.int z)) hs.2.1) dX4_askAt_6 ?_
    refine lv_icmp_ge (tgt := 30) hx hb dX4_askAt_9 (by decide) (fun c_2 => ?_) (fun c_2 => ?_)
    · skip
      refine lv_null hx hb dX4_askAt_30 ?_
      exact w_aret X hr hlk hS (by simp [kAns, c_1, c_2]; try rfl) hW dX4_askAt_31
    · skip
      refine lv_iload_n hx hb dX4_askAt_12 rfl (lv_at hl 1 rfl) ?_
      refine lv_aload_n hx hb dX4_askAt_13 rfl (lv_at hl 0 rfl) ?_
      refine w_get X hW 0 0 Nat.zero_lt_one rfl rfl inG4 3 (by decide) g52 rfl dX4_askAt_14 ?_
      refine w_alen X hW 7 0 Nat.zero_lt_one rfl 4 rfl (v := 30) rfl dX4_askAt_17 ?_
      refine lv_icmp_ge (tgt := 30) hx hb dX4_askAt_18 (by decide) (fun c_3 => ?_) (fun c_3 => ?_)
      · skip
        refine lv_null hx hb dX4_askAt_30 ?_
        exact w_aret X hr hlk hS ((kAns_x (a := a) (N := 30) hK30 (by decide) c_2 c_3).elim) hW dX4_askAt_31
      · skip
        refine lv_aload_n hx hb dX4_askAt_21 rfl (lv_at hl 0 rfl) ?_
        refine w_get X hW 0 0 Nat.zero_lt_one rfl rfl inG4 3 (by decide) g52 rfl dX4_askAt_22 ?_
        refine lv_iload_n hx hb dX4_askAt_25 rfl (lv_at hl 1 rfl) ?_
        have hin : vp_in a 30 := (k_in_a c_1 c_3 rfl)
        have hq : kAns nK a = some a.toNatClampNeg := by simp [kAns, c_1, c_2, c_3]
        have hf := hs.2.2.2.2.2 a.toNatClampNeg (kAns_b hq)
        refine w_aald X hW 7 0 Nat.zero_lt_one rfl 4 rfl hin dX4_askAt_26 ?_
        rw [if_neg hf]
        refine lv_goto (tgt := 31) hx hb dX4_askAt_27 (by decide) ?_
        exact w_aret X hr hlk hS (by rw [hq]; rfl) hW dX4_askAt_31
end
