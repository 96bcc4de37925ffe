-- ===== PART A: goes FIRST, ahead of the names: the tables' words, and 'selects' of the private methods out of them =====
/-- a private method of a class that the tables say can be made, by its rows of tables_1 -/
def lw_okq (q : MethodName × Nat) : Prop := (q.1.cls ≠ "java/lang/invoke/MethodHandle" ∧ q.1.cls ≠ "java/lang/invoke/VarHandle") ∧ Cond.instantiable q.1.cls q.2 ∈ tables_1 ∧ Cond.privateMethod q.1 ∈ tables_1 ∧ Cond.instanceMethod q.1 ∈ tables_1
theorem lw_p0 : lw_okq (⟨"SisterCourts", "putOnTape", "(I)V"⟩, 10) := ⟨⟨by decide +kernel, by decide +kernel⟩, List.mem_of_getElem? (i := 28) (by decide +kernel), List.mem_of_getElem? (i := 394) (by decide +kernel), List.mem_of_getElem? (i := 395) (by decide +kernel)⟩
theorem lw_p1 : lw_okq (⟨"SisterCourts$Scanner", "takeWord", "()V"⟩, 7) := ⟨⟨by decide +kernel, by decide +kernel⟩, List.mem_of_getElem? (i := 128) (by decide +kernel), List.mem_of_getElem? (i := 422) (by decide +kernel), List.mem_of_getElem? (i := 423) (by decide +kernel)⟩
theorem lw_p2 : lw_okq (⟨"SisterCourts$Scanner", "takeNumber", "()V"⟩, 7) := ⟨⟨by decide +kernel, by decide +kernel⟩, List.mem_of_getElem? (i := 128) (by decide +kernel), List.mem_of_getElem? (i := 426) (by decide +kernel), List.mem_of_getElem? (i := 427) (by decide +kernel)⟩
theorem lw_p3 : lw_okq (⟨"SisterCourts$Reader", "readTown", "()Z"⟩, 4) := ⟨⟨by decide +kernel, by decide +kernel⟩, List.mem_of_getElem? (i := 122) (by decide +kernel), List.mem_of_getElem? (i := 443) (by decide +kernel), List.mem_of_getElem? (i := 444) (by decide +kernel)⟩
theorem lw_p4 : lw_okq (⟨"SisterCourts$Reader", "newName", "(II)Z"⟩, 4) := ⟨⟨by decide +kernel, by decide +kernel⟩, List.mem_of_getElem? (i := 122) (by decide +kernel), List.mem_of_getElem? (i := 448) (by decide +kernel), List.mem_of_getElem? (i := 449) (by decide +kernel)⟩
theorem lw_p5 : lw_okq (⟨"SisterCourts$Reader", "atName", "()Z"⟩, 4) := ⟨⟨by decide +kernel, by decide +kernel⟩, List.mem_of_getElem? (i := 122) (by decide +kernel), List.mem_of_getElem? (i := 452) (by decide +kernel), List.mem_of_getElem? (i := 453) (by decide +kernel)⟩
theorem lw_p6 : lw_okq (⟨"SisterCourts$Reader", "sortHere", "()I"⟩, 4) := ⟨⟨by decide +kernel, by decide +kernel⟩, List.mem_of_getElem? (i := 122) (by decide +kernel), List.mem_of_getElem? (i := 456) (by decide +kernel), List.mem_of_getElem? (i := 457) (by decide +kernel)⟩
theorem lw_p7 : lw_okq (⟨"SisterCourts$Reader", "refuse", "(I)Z"⟩, 4) := ⟨⟨by decide +kernel, by decide +kernel⟩, List.mem_of_getElem? (i := 122) (by decide +kernel), List.mem_of_getElem? (i := 469) (by decide +kernel), List.mem_of_getElem? (i := 470) (by decide +kernel)⟩
theorem lw_p8 : lw_okq (⟨"SisterCourts$Names", "find", "(J)I"⟩, 4) := ⟨⟨by decide +kernel, by decide +kernel⟩, List.mem_of_getElem? (i := 160) (by decide +kernel), List.mem_of_getElem? (i := 477) (by decide +kernel), List.mem_of_getElem? (i := 478) (by decide +kernel)⟩
theorem lw_p9 : lw_okq (⟨"SisterCourts$Reader", "lineEnd", "()Z"⟩, 4) := ⟨⟨by decide +kernel, by decide +kernel⟩, List.mem_of_getElem? (i := 122) (by decide +kernel), List.mem_of_getElem? (i := 489) (by decide +kernel), List.mem_of_getElem? (i := 490) (by decide +kernel)⟩
theorem lw_p10 : lw_okq (⟨"SisterCourts$Reader", "readRoad", "()Z"⟩, 4) := ⟨⟨by decide +kernel, by decide +kernel⟩, List.mem_of_getElem? (i := 122) (by decide +kernel), List.mem_of_getElem? (i := 493) (by decide +kernel), List.mem_of_getElem? (i := 494) (by decide +kernel)⟩
theorem lw_p11 : lw_okq (⟨"SisterCourts$Reader", "toldName", "(II)I"⟩, 4) := ⟨⟨by decide +kernel, by decide +kernel⟩, List.mem_of_getElem? (i := 122) (by decide +kernel), List.mem_of_getElem? (i := 497) (by decide +kernel), List.mem_of_getElem? (i := 498) (by decide +kernel)⟩
theorem lw_p12 : lw_okq (⟨"SisterCourts$Reader", "refuseNumber", "(I)I"⟩, 4) := ⟨⟨by decide +kernel, by decide +kernel⟩, List.mem_of_getElem? (i := 122) (by decide +kernel), List.mem_of_getElem? (i := 501) (by decide +kernel), List.mem_of_getElem? (i := 502) (by decide +kernel)⟩
theorem lw_p13 : lw_okq (⟨"SisterCourts$Reader", "numberWithin", "(II)I"⟩, 4) := ⟨⟨by decide +kernel, by decide +kernel⟩, List.mem_of_getElem? (i := 122) (by decide +kernel), List.mem_of_getElem? (i := 509) (by decide +kernel), List.mem_of_getElem? (i := 510) (by decide +kernel)⟩
theorem lw_p14 : lw_okq (⟨"SisterCourts$Reader", "readJudge", "()Z"⟩, 4) := ⟨⟨by decide +kernel, by decide +kernel⟩, List.mem_of_getElem? (i := 122) (by decide +kernel), List.mem_of_getElem? (i := 517) (by decide +kernel), List.mem_of_getElem? (i := 518) (by decide +kernel)⟩
theorem lw_p15 : lw_okq (⟨"SisterCourts$Reader", "unlikeSorts", "()I"⟩, 4) := ⟨⟨by decide +kernel, by decide +kernel⟩, List.mem_of_getElem? (i := 122) (by decide +kernel), List.mem_of_getElem? (i := 521) (by decide +kernel), List.mem_of_getElem? (i := 522) (by decide +kernel)⟩
def lw_privs_1 : List (MethodName × Nat) := [(⟨"SisterCourts", "putOnTape", "(I)V"⟩, 10), (⟨"SisterCourts$Scanner", "takeWord", "()V"⟩, 7), (⟨"SisterCourts$Scanner", "takeNumber", "()V"⟩, 7), (⟨"SisterCourts$Reader", "readTown", "()Z"⟩, 4), (⟨"SisterCourts$Reader", "newName", "(II)Z"⟩, 4), (⟨"SisterCourts$Reader", "atName", "()Z"⟩, 4), (⟨"SisterCourts$Reader", "sortHere", "()I"⟩, 4), (⟨"SisterCourts$Reader", "refuse", "(I)Z"⟩, 4), (⟨"SisterCourts$Names", "find", "(J)I"⟩, 4), (⟨"SisterCourts$Reader", "lineEnd", "()Z"⟩, 4), (⟨"SisterCourts$Reader", "readRoad", "()Z"⟩, 4), (⟨"SisterCourts$Reader", "toldName", "(II)I"⟩, 4), (⟨"SisterCourts$Reader", "refuseNumber", "(I)I"⟩, 4), (⟨"SisterCourts$Reader", "numberWithin", "(II)I"⟩, 4), (⟨"SisterCourts$Reader", "readJudge", "()Z"⟩, 4), (⟨"SisterCourts$Reader", "unlikeSorts", "()I"⟩, 4)]
theorem lw_r1 : ∀ q ∈ lw_privs_1, lw_okq q := List.forall_mem_cons.mpr ⟨lw_p0, List.forall_mem_cons.mpr ⟨lw_p1, List.forall_mem_cons.mpr ⟨lw_p2, List.forall_mem_cons.mpr ⟨lw_p3, List.forall_mem_cons.mpr ⟨lw_p4, List.forall_mem_cons.mpr ⟨lw_p5, List.forall_mem_cons.mpr ⟨lw_p6, List.forall_mem_cons.mpr ⟨lw_p7, List.forall_mem_cons.mpr ⟨lw_p8, List.forall_mem_cons.mpr ⟨lw_p9, List.forall_mem_cons.mpr ⟨lw_p10, List.forall_mem_cons.mpr ⟨lw_p11, List.forall_mem_cons.mpr ⟨lw_p12, List.forall_mem_cons.mpr ⟨lw_p13, List.forall_mem_cons.mpr ⟨lw_p14, List.forall_mem_cons.mpr ⟨lw_p15, fun _ h => absurd h List.not_mem_nil⟩⟩⟩⟩⟩⟩⟩⟩⟩⟩⟩⟩⟩⟩⟩⟩
theorem lw_p16 : lw_okq (⟨"SisterCourts$Reader", "unlikeSort", "(I)I"⟩, 4) := ⟨⟨by decide +kernel, by decide +kernel⟩, List.mem_of_getElem? (i := 122) (by decide +kernel), List.mem_of_getElem? (i := 525) (by decide +kernel), List.mem_of_getElem? (i := 526) (by decide +kernel)⟩
theorem lw_p17 : lw_okq (⟨"SisterCourts$Reader", "readQuarrel", "()Z"⟩, 4) := ⟨⟨by decide +kernel, by decide +kernel⟩, List.mem_of_getElem? (i := 122) (by decide +kernel), List.mem_of_getElem? (i := 533) (by decide +kernel), List.mem_of_getElem? (i := 534) (by decide +kernel)⟩
theorem lw_p18 : lw_okq (⟨"SisterCourts$Reader", "readCase", "()Z"⟩, 4) := ⟨⟨by decide +kernel, by decide +kernel⟩, List.mem_of_getElem? (i := 122) (by decide +kernel), List.mem_of_getElem? (i := 541) (by decide +kernel), List.mem_of_getElem? (i := 542) (by decide +kernel)⟩
theorem lw_p19 : lw_okq (⟨"SisterCourts$Reader", "barredJudges", "()I"⟩, 4) := ⟨⟨by decide +kernel, by decide +kernel⟩, List.mem_of_getElem? (i := 122) (by decide +kernel), List.mem_of_getElem? (i := 545) (by decide +kernel), List.mem_of_getElem? (i := 546) (by decide +kernel)⟩
theorem lw_p20 : lw_okq (⟨"SisterCourts", "beginWithSpare", "()V"⟩, 10) := ⟨⟨by decide +kernel, by decide +kernel⟩, List.mem_of_getElem? (i := 28) (by decide +kernel), List.mem_of_getElem? (i := 553) (by decide +kernel), List.mem_of_getElem? (i := 554) (by decide +kernel)⟩
theorem lw_p21 : lw_okq (⟨"SisterCourts$Calendar", "isTooFar", "(III)Z"⟩, 4) := ⟨⟨by decide +kernel, by decide +kernel⟩, List.mem_of_getElem? (i := 194) (by decide +kernel), List.mem_of_getElem? (i := 603) (by decide +kernel), List.mem_of_getElem? (i := 604) (by decide +kernel)⟩
theorem lw_p22 : lw_okq (⟨"SisterCourts$Calendar", "meetsQuarrel", "(III)Z"⟩, 4) := ⟨⟨by decide +kernel, by decide +kernel⟩, List.mem_of_getElem? (i := 194) (by decide +kernel), List.mem_of_getElem? (i := 611) (by decide +kernel), List.mem_of_getElem? (i := 612) (by decide +kernel)⟩
theorem lw_p23 : lw_okq (⟨"SisterCourts$Acts", "store", "(I)V"⟩, 6) := ⟨⟨by decide +kernel, by decide +kernel⟩, List.mem_of_getElem? (i := 333) (by decide +kernel), List.mem_of_getElem? (i := 628) (by decide +kernel), List.mem_of_getElem? (i := 629) (by decide +kernel)⟩
theorem lw_p24 : lw_okq (⟨"SisterCourts$Calendar", "leastLoaded", "(II)I"⟩, 4) := ⟨⟨by decide +kernel, by decide +kernel⟩, List.mem_of_getElem? (i := 194) (by decide +kernel), List.mem_of_getElem? (i := 673) (by decide +kernel), List.mem_of_getElem? (i := 674) (by decide +kernel)⟩
theorem lw_p25 : lw_okq (⟨"SisterCourts$Calendar", "isRather", "(III)Z"⟩, 4) := ⟨⟨by decide +kernel, by decide +kernel⟩, List.mem_of_getElem? (i := 194) (by decide +kernel), List.mem_of_getElem? (i := 678) (by decide +kernel), List.mem_of_getElem? (i := 679) (by decide +kernel)⟩
theorem lw_p26 : lw_okq (⟨"SisterCourts$Calendar", "isFirstOfHisDay", "(I)Z"⟩, 4) := ⟨⟨by decide +kernel, by decide +kernel⟩, List.mem_of_getElem? (i := 194) (by decide +kernel), List.mem_of_getElem? (i := 686) (by decide +kernel), List.mem_of_getElem? (i := 687) (by decide +kernel)⟩
theorem lw_p27 : lw_okq (⟨"SisterCourts$BestSearch", "tryCase", "(II)V"⟩, 9) := ⟨⟨by decide +kernel, by decide +kernel⟩, List.mem_of_getElem? (i := 237) (by decide +kernel), List.mem_of_getElem? (i := 705) (by decide +kernel), List.mem_of_getElem? (i := 706) (by decide +kernel)⟩
theorem lw_p28 : lw_okq (⟨"SisterCourts$BestSearch", "mayBeBetter", "(I)Z"⟩, 9) := ⟨⟨by decide +kernel, by decide +kernel⟩, List.mem_of_getElem? (i := 237) (by decide +kernel), List.mem_of_getElem? (i := 709) (by decide +kernel), List.mem_of_getElem? (i := 710) (by decide +kernel)⟩
theorem lw_p29 : lw_okq (⟨"SisterCourts$BestSearch", "remember", "(I)V"⟩, 9) := ⟨⟨by decide +kernel, by decide +kernel⟩, List.mem_of_getElem? (i := 237) (by decide +kernel), List.mem_of_getElem? (i := 722) (by decide +kernel), List.mem_of_getElem? (i := 723) (by decide +kernel)⟩
theorem lw_p30 : lw_okq (⟨"SisterCourts$BestSearch", "tryJudge", "(III)V"⟩, 9) := ⟨⟨by decide +kernel, by decide +kernel⟩, List.mem_of_getElem? (i := 237) (by decide +kernel), List.mem_of_getElem? (i := 727) (by decide +kernel), List.mem_of_getElem? (i := 728) (by decide +kernel)⟩
theorem lw_p31 : lw_okq (⟨"SisterCourts$FairerSearch", "sortInto", "(LSisterCourts$LoadOrder;)V"⟩, 6) := ⟨⟨by decide +kernel, by decide +kernel⟩, List.mem_of_getElem? (i := 288) (by decide +kernel), List.mem_of_getElem? (i := 774) (by decide +kernel), List.mem_of_getElem? (i := 775) (by decide +kernel)⟩
def lw_privs_2 : List (MethodName × Nat) := [(⟨"SisterCourts$Reader", "unlikeSort", "(I)I"⟩, 4), (⟨"SisterCourts$Reader", "readQuarrel", "()Z"⟩, 4), (⟨"SisterCourts$Reader", "readCase", "()Z"⟩, 4), (⟨"SisterCourts$Reader", "barredJudges", "()I"⟩, 4), (⟨"SisterCourts", "beginWithSpare", "()V"⟩, 10), (⟨"SisterCourts$Calendar", "isTooFar", "(III)Z"⟩, 4), (⟨"SisterCourts$Calendar", "meetsQuarrel", "(III)Z"⟩, 4), (⟨"SisterCourts$Acts", "store", "(I)V"⟩, 6), (⟨"SisterCourts$Calendar", "leastLoaded", "(II)I"⟩, 4), (⟨"SisterCourts$Calendar", "isRather", "(III)Z"⟩, 4), (⟨"SisterCourts$Calendar", "isFirstOfHisDay", "(I)Z"⟩, 4), (⟨"SisterCourts$BestSearch", "tryCase", "(II)V"⟩, 9), (⟨"SisterCourts$BestSearch", "mayBeBetter", "(I)Z"⟩, 9), (⟨"SisterCourts$BestSearch", "remember", "(I)V"⟩, 9), (⟨"SisterCourts$BestSearch", "tryJudge", "(III)V"⟩, 9), (⟨"SisterCourts$FairerSearch", "sortInto", "(LSisterCourts$LoadOrder;)V"⟩, 6)]
theorem lw_r2 : ∀ q ∈ lw_privs_2, lw_okq q := List.forall_mem_cons.mpr ⟨lw_p16, List.forall_mem_cons.mpr ⟨lw_p17, List.forall_mem_cons.mpr ⟨lw_p18, List.forall_mem_cons.mpr ⟨lw_p19, List.forall_mem_cons.mpr ⟨lw_p20, List.forall_mem_cons.mpr ⟨lw_p21, List.forall_mem_cons.mpr ⟨lw_p22, List.forall_mem_cons.mpr ⟨lw_p23, List.forall_mem_cons.mpr ⟨lw_p24, List.forall_mem_cons.mpr ⟨lw_p25, List.forall_mem_cons.mpr ⟨lw_p26, List.forall_mem_cons.mpr ⟨lw_p27, List.forall_mem_cons.mpr ⟨lw_p28, List.forall_mem_cons.mpr ⟨lw_p29, List.forall_mem_cons.mpr ⟨lw_p30, List.forall_mem_cons.mpr ⟨lw_p31, fun _ h => absurd h List.not_mem_nil⟩⟩⟩⟩⟩⟩⟩⟩⟩⟩⟩⟩⟩⟩⟩⟩
theorem lw_p32 : lw_okq (⟨"SisterCourts$FairerSearch", "tryOthers", "(III)V"⟩, 6) := ⟨⟨by decide +kernel, by decide +kernel⟩, List.mem_of_getElem? (i := 288) (by decide +kernel), List.mem_of_getElem? (i := 781) (by decide +kernel), List.mem_of_getElem? (i := 782) (by decide +kernel)⟩
theorem lw_p33 : lw_okq (⟨"SisterCourts$FairerSearch", "compare", "(II)V"⟩, 6) := ⟨⟨by decide +kernel, by decide +kernel⟩, List.mem_of_getElem? (i := 288) (by decide +kernel), List.mem_of_getElem? (i := 788) (by decide +kernel), List.mem_of_getElem? (i := 789) (by decide +kernel)⟩
theorem lw_p34 : lw_okq (⟨"SisterCourts$Debts", "mostGroups", "(II)I"⟩, 3) := ⟨⟨by decide +kernel, by decide +kernel⟩, List.mem_of_getElem? (i := 317) (by decide +kernel), List.mem_of_getElem? (i := 819) (by decide +kernel), List.mem_of_getElem? (i := 820) (by decide +kernel)⟩
theorem lw_p35 : lw_okq (⟨"SisterCourts$Acts", "fetch", "(I)V"⟩, 6) := ⟨⟨by decide +kernel, by decide +kernel⟩, List.mem_of_getElem? (i := 333) (by decide +kernel), List.mem_of_getElem? (i := 871) (by decide +kernel), List.mem_of_getElem? (i := 872) (by decide +kernel)⟩
theorem lw_p36 : lw_okq (⟨"java/lang/Throwable", "fillInStackTrace", "(I)Ljava/lang/Throwable;"⟩, 6) := ⟨⟨by decide +kernel, by decide +kernel⟩, List.mem_of_getElem? (i := 935) (by decide +kernel), List.mem_of_getElem? (i := 933) (by decide +kernel), List.mem_of_getElem? (i := 934) (by decide +kernel)⟩
theorem lw_p37 : lw_okq (⟨"SisterCourtsModel", "puts", "(I)V"⟩, 48) := ⟨⟨by decide +kernel, by decide +kernel⟩, List.mem_of_getElem? (i := 983) (by decide +kernel), List.mem_of_getElem? (i := 1143) (by decide +kernel), List.mem_of_getElem? (i := 1144) (by decide +kernel)⟩
theorem lw_p38 : lw_okq (⟨"SisterCourtsModel", "steps", "()V"⟩, 48) := ⟨⟨by decide +kernel, by decide +kernel⟩, List.mem_of_getElem? (i := 983) (by decide +kernel), List.mem_of_getElem? (i := 1154) (by decide +kernel), List.mem_of_getElem? (i := 1155) (by decide +kernel)⟩
theorem lw_p39 : lw_okq (⟨"SisterCourtsModel", "see", "(I)I"⟩, 48) := ⟨⟨by decide +kernel, by decide +kernel⟩, List.mem_of_getElem? (i := 983) (by decide +kernel), List.mem_of_getElem? (i := 1158) (by decide +kernel), List.mem_of_getElem? (i := 1159) (by decide +kernel)⟩
theorem lw_p40 : lw_okq (⟨"SisterCourtsModel", "lineHere", "()Z"⟩, 48) := ⟨⟨by decide +kernel, by decide +kernel⟩, List.mem_of_getElem? (i := 983) (by decide +kernel), List.mem_of_getElem? (i := 1167) (by decide +kernel), List.mem_of_getElem? (i := 1168) (by decide +kernel)⟩
theorem lw_p41 : lw_okq (⟨"SisterCourtsModel", "is", "(Ljava/lang/String;)Z"⟩, 48) := ⟨⟨by decide +kernel, by decide +kernel⟩, List.mem_of_getElem? (i := 983) (by decide +kernel), List.mem_of_getElem? (i := 1172) (by decide +kernel), List.mem_of_getElem? (i := 1173) (by decide +kernel)⟩
theorem lw_p42 : lw_okq (⟨"SisterCourtsModel", "must", "(ZI)Z"⟩, 48) := ⟨⟨by decide +kernel, by decide +kernel⟩, List.mem_of_getElem? (i := 983) (by decide +kernel), List.mem_of_getElem? (i := 1231) (by decide +kernel), List.mem_of_getElem? (i := 1232) (by decide +kernel)⟩
theorem lw_p43 : lw_okq (⟨"SisterCourtsModel", "townLine", "()Z"⟩, 48) := ⟨⟨by decide +kernel, by decide +kernel⟩, List.mem_of_getElem? (i := 983) (by decide +kernel), List.mem_of_getElem? (i := 1235) (by decide +kernel), List.mem_of_getElem? (i := 1236) (by decide +kernel)⟩
theorem lw_p44 : lw_okq (⟨"SisterCourtsModel", "newName", "()Z"⟩, 48) := ⟨⟨by decide +kernel, by decide +kernel⟩, List.mem_of_getElem? (i := 983) (by decide +kernel), List.mem_of_getElem? (i := 1239) (by decide +kernel), List.mem_of_getElem? (i := 1240) (by decide +kernel)⟩
theorem lw_p45 : lw_okq (⟨"SisterCourtsModel", "isName", "()Z"⟩, 48) := ⟨⟨by decide +kernel, by decide +kernel⟩, List.mem_of_getElem? (i := 983) (by decide +kernel), List.mem_of_getElem? (i := 1243) (by decide +kernel), List.mem_of_getElem? (i := 1244) (by decide +kernel)⟩
theorem lw_p46 : lw_okq (⟨"SisterCourtsModel", "sortHere", "()I"⟩, 48) := ⟨⟨by decide +kernel, by decide +kernel⟩, List.mem_of_getElem? (i := 983) (by decide +kernel), List.mem_of_getElem? (i := 1247) (by decide +kernel), List.mem_of_getElem? (i := 1248) (by decide +kernel)⟩
theorem lw_p47 : lw_okq (⟨"SisterCourtsModel", "townNamed", "()I"⟩, 48) := ⟨⟨by decide +kernel, by decide +kernel⟩, List.mem_of_getElem? (i := 983) (by decide +kernel), List.mem_of_getElem? (i := 1256) (by decide +kernel), List.mem_of_getElem? (i := 1257) (by decide +kernel)⟩
def lw_privs_3 : List (MethodName × Nat) := [(⟨"SisterCourts$FairerSearch", "tryOthers", "(III)V"⟩, 6), (⟨"SisterCourts$FairerSearch", "compare", "(II)V"⟩, 6), (⟨"SisterCourts$Debts", "mostGroups", "(II)I"⟩, 3), (⟨"SisterCourts$Acts", "fetch", "(I)V"⟩, 6), (⟨"java/lang/Throwable", "fillInStackTrace", "(I)Ljava/lang/Throwable;"⟩, 6), (⟨"SisterCourtsModel", "puts", "(I)V"⟩, 48), (⟨"SisterCourtsModel", "steps", "()V"⟩, 48), (⟨"SisterCourtsModel", "see", "(I)I"⟩, 48), (⟨"SisterCourtsModel", "lineHere", "()Z"⟩, 48), (⟨"SisterCourtsModel", "is", "(Ljava/lang/String;)Z"⟩, 48), (⟨"SisterCourtsModel", "must", "(ZI)Z"⟩, 48), (⟨"SisterCourtsModel", "townLine", "()Z"⟩, 48), (⟨"SisterCourtsModel", "newName", "()Z"⟩, 48), (⟨"SisterCourtsModel", "isName", "()Z"⟩, 48), (⟨"SisterCourtsModel", "sortHere", "()I"⟩, 48), (⟨"SisterCourtsModel", "townNamed", "()I"⟩, 48)]
theorem lw_r3 : ∀ q ∈ lw_privs_3, lw_okq q := List.forall_mem_cons.mpr ⟨lw_p32, List.forall_mem_cons.mpr ⟨lw_p33, List.forall_mem_cons.mpr ⟨lw_p34, List.forall_mem_cons.mpr ⟨lw_p35, List.forall_mem_cons.mpr ⟨lw_p36, List.forall_mem_cons.mpr ⟨lw_p37, List.forall_mem_cons.mpr ⟨lw_p38, List.forall_mem_cons.mpr ⟨lw_p39, List.forall_mem_cons.mpr ⟨lw_p40, List.forall_mem_cons.mpr ⟨lw_p41, List.forall_mem_cons.mpr ⟨lw_p42, List.forall_mem_cons.mpr ⟨lw_p43, List.forall_mem_cons.mpr ⟨lw_p44, List.forall_mem_cons.mpr ⟨lw_p45, List.forall_mem_cons.mpr ⟨lw_p46, List.forall_mem_cons.mpr ⟨lw_p47, fun _ h => absurd h List.not_mem_nil⟩⟩⟩⟩⟩⟩⟩⟩⟩⟩⟩⟩⟩⟩⟩⟩
theorem lw_p48 : lw_okq (⟨"SisterCourtsModel", "judgeNamed", "()I"⟩, 48) := ⟨⟨by decide +kernel, by decide +kernel⟩, List.mem_of_getElem? (i := 983) (by decide +kernel), List.mem_of_getElem? (i := 1260) (by decide +kernel), List.mem_of_getElem? (i := 1261) (by decide +kernel)⟩
theorem lw_p49 : lw_okq (⟨"SisterCourtsModel", "isCaseNamed", "()Z"⟩, 48) := ⟨⟨by decide +kernel, by decide +kernel⟩, List.mem_of_getElem? (i := 983) (by decide +kernel), List.mem_of_getElem? (i := 1264) (by decide +kernel), List.mem_of_getElem? (i := 1265) (by decide +kernel)⟩
theorem lw_p50 : lw_okq (⟨"SisterCourtsModel", "roadLine", "()Z"⟩, 48) := ⟨⟨by decide +kernel, by decide +kernel⟩, List.mem_of_getElem? (i := 983) (by decide +kernel), List.mem_of_getElem? (i := 1268) (by decide +kernel), List.mem_of_getElem? (i := 1269) (by decide +kernel)⟩
theorem lw_p51 : lw_okq (⟨"SisterCourtsModel", "takesTold", "(ZI)Z"⟩, 48) := ⟨⟨by decide +kernel, by decide +kernel⟩, List.mem_of_getElem? (i := 983) (by decide +kernel), List.mem_of_getElem? (i := 1272) (by decide +kernel), List.mem_of_getElem? (i := 1273) (by decide +kernel)⟩
theorem lw_p52 : lw_okq (⟨"SisterCourtsModel", "takesNumber", "(II)Z"⟩, 48) := ⟨⟨by decide +kernel, by decide +kernel⟩, List.mem_of_getElem? (i := 983) (by decide +kernel), List.mem_of_getElem? (i := 1276) (by decide +kernel), List.mem_of_getElem? (i := 1277) (by decide +kernel)⟩
theorem lw_p53 : lw_okq (⟨"SisterCourtsModel", "judgeLine", "()Z"⟩, 48) := ⟨⟨by decide +kernel, by decide +kernel⟩, List.mem_of_getElem? (i := 983) (by decide +kernel), List.mem_of_getElem? (i := 1280) (by decide +kernel), List.mem_of_getElem? (i := 1281) (by decide +kernel)⟩
theorem lw_p54 : lw_okq (⟨"SisterCourtsModel", "quarrelLine", "()Z"⟩, 48) := ⟨⟨by decide +kernel, by decide +kernel⟩, List.mem_of_getElem? (i := 983) (by decide +kernel), List.mem_of_getElem? (i := 1284) (by decide +kernel), List.mem_of_getElem? (i := 1285) (by decide +kernel)⟩
theorem lw_p55 : lw_okq (⟨"SisterCourtsModel", "caseLine", "()Z"⟩, 48) := ⟨⟨by decide +kernel, by decide +kernel⟩, List.mem_of_getElem? (i := 983) (by decide +kernel), List.mem_of_getElem? (i := 1288) (by decide +kernel), List.mem_of_getElem? (i := 1289) (by decide +kernel)⟩
theorem lw_p56 : lw_okq (⟨"SisterCourtsModel", "copies", "()V"⟩, 48) := ⟨⟨by decide +kernel, by decide +kernel⟩, List.mem_of_getElem? (i := 983) (by decide +kernel), List.mem_of_getElem? (i := 1292) (by decide +kernel), List.mem_of_getElem? (i := 1293) (by decide +kernel)⟩
theorem lw_p57 : lw_okq (⟨"SisterCourtsModel", "laysWays", "()V"⟩, 48) := ⟨⟨by decide +kernel, by decide +kernel⟩, List.mem_of_getElem? (i := 983) (by decide +kernel), List.mem_of_getElem? (i := 1296) (by decide +kernel), List.mem_of_getElem? (i := 1297) (by decide +kernel)⟩
theorem lw_p58 : lw_okq (⟨"SisterCourtsModel", "isTown", "(I)Z"⟩, 48) := ⟨⟨by decide +kernel, by decide +kernel⟩, List.mem_of_getElem? (i := 983) (by decide +kernel), List.mem_of_getElem? (i := 1305) (by decide +kernel), List.mem_of_getElem? (i := 1306) (by decide +kernel)⟩
theorem lw_p59 : lw_okq (⟨"SisterCourtsModel", "isJudge", "(I)Z"⟩, 48) := ⟨⟨by decide +kernel, by decide +kernel⟩, List.mem_of_getElem? (i := 983) (by decide +kernel), List.mem_of_getElem? (i := 1313) (by decide +kernel), List.mem_of_getElem? (i := 1314) (by decide +kernel)⟩
theorem lw_p60 : lw_okq (⟨"SisterCourtsModel", "isCase", "(I)Z"⟩, 48) := ⟨⟨by decide +kernel, by decide +kernel⟩, List.mem_of_getElem? (i := 983) (by decide +kernel), List.mem_of_getElem? (i := 1322) (by decide +kernel), List.mem_of_getElem? (i := 1323) (by decide +kernel)⟩
theorem lw_p61 : lw_okq (⟨"SisterCourtsModel", "whyOf", "(III)I"⟩, 48) := ⟨⟨by decide +kernel, by decide +kernel⟩, List.mem_of_getElem? (i := 983) (by decide +kernel), List.mem_of_getElem? (i := 1335) (by decide +kernel), List.mem_of_getElem? (i := 1336) (by decide +kernel)⟩
theorem lw_p62 : lw_okq (⟨"SisterCourtsModel", "isElsewhere", "(III)Z"⟩, 48) := ⟨⟨by decide +kernel, by decide +kernel⟩, List.mem_of_getElem? (i := 983) (by decide +kernel), List.mem_of_getElem? (i := 1339) (by decide +kernel), List.mem_of_getElem? (i := 1340) (by decide +kernel)⟩
theorem lw_p63 : lw_okq (⟨"SisterCourtsModel", "meetsFoe", "(III)Z"⟩, 48) := ⟨⟨by decide +kernel, by decide +kernel⟩, List.mem_of_getElem? (i := 983) (by decide +kernel), List.mem_of_getElem? (i := 1343) (by decide +kernel), List.mem_of_getElem? (i := 1344) (by decide +kernel)⟩
def lw_privs_4 : List (MethodName × Nat) := [(⟨"SisterCourtsModel", "judgeNamed", "()I"⟩, 48), (⟨"SisterCourtsModel", "isCaseNamed", "()Z"⟩, 48), (⟨"SisterCourtsModel", "roadLine", "()Z"⟩, 48), (⟨"SisterCourtsModel", "takesTold", "(ZI)Z"⟩, 48), (⟨"SisterCourtsModel", "takesNumber", "(II)Z"⟩, 48), (⟨"SisterCourtsModel", "judgeLine", "()Z"⟩, 48), (⟨"SisterCourtsModel", "quarrelLine", "()Z"⟩, 48), (⟨"SisterCourtsModel", "caseLine", "()Z"⟩, 48), (⟨"SisterCourtsModel", "copies", "()V"⟩, 48), (⟨"SisterCourtsModel", "laysWays", "()V"⟩, 48), (⟨"SisterCourtsModel", "isTown", "(I)Z"⟩, 48), (⟨"SisterCourtsModel", "isJudge", "(I)Z"⟩, 48), (⟨"SisterCourtsModel", "isCase", "(I)Z"⟩, 48), (⟨"SisterCourtsModel", "whyOf", "(III)I"⟩, 48), (⟨"SisterCourtsModel", "isElsewhere", "(III)Z"⟩, 48), (⟨"SisterCourtsModel", "meetsFoe", "(III)Z"⟩, 48)]
theorem lw_r4 : ∀ q ∈ lw_privs_4, lw_okq q := List.forall_mem_cons.mpr ⟨lw_p48, List.forall_mem_cons.mpr ⟨lw_p49, List.forall_mem_cons.mpr ⟨lw_p50, List.forall_mem_cons.mpr ⟨lw_p51, List.forall_mem_cons.mpr ⟨lw_p52, List.forall_mem_cons.mpr ⟨lw_p53, List.forall_mem_cons.mpr ⟨lw_p54, List.forall_mem_cons.mpr ⟨lw_p55, List.forall_mem_cons.mpr ⟨lw_p56, List.forall_mem_cons.mpr ⟨lw_p57, List.forall_mem_cons.mpr ⟨lw_p58, List.forall_mem_cons.mpr ⟨lw_p59, List.forall_mem_cons.mpr ⟨lw_p60, List.forall_mem_cons.mpr ⟨lw_p61, List.forall_mem_cons.mpr ⟨lw_p62, List.forall_mem_cons.mpr ⟨lw_p63, fun _ h => absurd h List.not_mem_nil⟩⟩⟩⟩⟩⟩⟩⟩⟩⟩⟩⟩⟩⟩⟩⟩
theorem lw_p64 : lw_okq (⟨"SisterCourtsModel", "minutesOn", "(II)I"⟩, 48) := ⟨⟨by decide +kernel, by decide +kernel⟩, List.mem_of_getElem? (i := 983) (by decide +kernel), List.mem_of_getElem? (i := 1347) (by decide +kernel), List.mem_of_getElem? (i := 1348) (by decide +kernel)⟩
theorem lw_p65 : lw_okq (⟨"SisterCourtsModel", "keeps", "()V"⟩, 48) := ⟨⟨by decide +kernel, by decide +kernel⟩, List.mem_of_getElem? (i := 983) (by decide +kernel), List.mem_of_getElem? (i := 1355) (by decide +kernel), List.mem_of_getElem? (i := 1356) (by decide +kernel)⟩
theorem lw_p66 : lw_okq (⟨"SisterCourtsModel", "sets", "(III)V"⟩, 48) := ⟨⟨by decide +kernel, by decide +kernel⟩, List.mem_of_getElem? (i := 983) (by decide +kernel), List.mem_of_getElem? (i := 1359) (by decide +kernel), List.mem_of_getElem? (i := 1360) (by decide +kernel)⟩
theorem lw_p67 : lw_okq (⟨"SisterCourtsModel", "laysOpen", "(I)V"⟩, 48) := ⟨⟨by decide +kernel, by decide +kernel⟩, List.mem_of_getElem? (i := 983) (by decide +kernel), List.mem_of_getElem? (i := 1379) (by decide +kernel), List.mem_of_getElem? (i := 1380) (by decide +kernel)⟩
theorem lw_p68 : lw_okq (⟨"SisterCourtsModel", "passes", "(I)I"⟩, 48) := ⟨⟨by decide +kernel, by decide +kernel⟩, List.mem_of_getElem? (i := 983) (by decide +kernel), List.mem_of_getElem? (i := 1387) (by decide +kernel), List.mem_of_getElem? (i := 1388) (by decide +kernel)⟩
theorem lw_p69 : lw_okq (⟨"SisterCourtsModel", "isBetter", "(III)Z"⟩, 48) := ⟨⟨by decide +kernel, by decide +kernel⟩, List.mem_of_getElem? (i := 983) (by decide +kernel), List.mem_of_getElem? (i := 1391) (by decide +kernel), List.mem_of_getElem? (i := 1392) (by decide +kernel)⟩
theorem lw_p70 : lw_okq (⟨"SisterCourtsModel", "loadOf", "(I)I"⟩, 48) := ⟨⟨by decide +kernel, by decide +kernel⟩, List.mem_of_getElem? (i := 983) (by decide +kernel), List.mem_of_getElem? (i := 1395) (by decide +kernel), List.mem_of_getElem? (i := 1396) (by decide +kernel)⟩
theorem lw_p71 : lw_okq (⟨"SisterCourtsModel", "laysBest", "(II)Z"⟩, 48) := ⟨⟨by decide +kernel, by decide +kernel⟩, List.mem_of_getElem? (i := 983) (by decide +kernel), List.mem_of_getElem? (i := 1404) (by decide +kernel), List.mem_of_getElem? (i := 1405) (by decide +kernel)⟩
theorem lw_p72 : lw_okq (⟨"SisterCourtsModel", "goes", "(III)V"⟩, 48) := ⟨⟨by decide +kernel, by decide +kernel⟩, List.mem_of_getElem? (i := 983) (by decide +kernel), List.mem_of_getElem? (i := 1409) (by decide +kernel), List.mem_of_getElem? (i := 1410) (by decide +kernel)⟩
theorem lw_p73 : lw_okq (⟨"SisterCourtsModel", "laysLoads", "()V"⟩, 48) := ⟨⟨by decide +kernel, by decide +kernel⟩, List.mem_of_getElem? (i := 983) (by decide +kernel), List.mem_of_getElem? (i := 1413) (by decide +kernel), List.mem_of_getElem? (i := 1414) (by decide +kernel)⟩
theorem lw_p74 : lw_okq (⟨"SisterCourtsModel", "areLess", "()Z"⟩, 48) := ⟨⟨by decide +kernel, by decide +kernel⟩, List.mem_of_getElem? (i := 983) (by decide +kernel), List.mem_of_getElem? (i := 1417) (by decide +kernel), List.mem_of_getElem? (i := 1418) (by decide +kernel)⟩
theorem lw_p75 : lw_okq (⟨"SisterCourtsModel", "notes", "()V"⟩, 48) := ⟨⟨by decide +kernel, by decide +kernel⟩, List.mem_of_getElem? (i := 983) (by decide +kernel), List.mem_of_getElem? (i := 1421) (by decide +kernel), List.mem_of_getElem? (i := 1422) (by decide +kernel)⟩
theorem lw_p76 : lw_okq (⟨"SisterCourtsModel", "laysFairer", "()Z"⟩, 48) := ⟨⟨by decide +kernel, by decide +kernel⟩, List.mem_of_getElem? (i := 983) (by decide +kernel), List.mem_of_getElem? (i := 1446) (by decide +kernel), List.mem_of_getElem? (i := 1447) (by decide +kernel)⟩
theorem lw_p77 : lw_okq (⟨"SisterCourtsModel", "lentBy", "(II)I"⟩, 48) := ⟨⟨by decide +kernel, by decide +kernel⟩, List.mem_of_getElem? (i := 983) (by decide +kernel), List.mem_of_getElem? (i := 1459) (by decide +kernel), List.mem_of_getElem? (i := 1460) (by decide +kernel)⟩
theorem lw_p78 : lw_okq (⟨"SisterCourtsModel", "owedBy", "(I)I"⟩, 48) := ⟨⟨by decide +kernel, by decide +kernel⟩, List.mem_of_getElem? (i := 983) (by decide +kernel), List.mem_of_getElem? (i := 1467) (by decide +kernel), List.mem_of_getElem? (i := 1468) (by decide +kernel)⟩
theorem lw_p79 : lw_okq (⟨"SisterCourtsModel", "allLoads", "()I"⟩, 48) := ⟨⟨by decide +kernel, by decide +kernel⟩, List.mem_of_getElem? (i := 983) (by decide +kernel), List.mem_of_getElem? (i := 1481) (by decide +kernel), List.mem_of_getElem? (i := 1482) (by decide +kernel)⟩
def lw_privs_5 : List (MethodName × Nat) := [(⟨"SisterCourtsModel", "minutesOn", "(II)I"⟩, 48), (⟨"SisterCourtsModel", "keeps", "()V"⟩, 48), (⟨"SisterCourtsModel", "sets", "(III)V"⟩, 48), (⟨"SisterCourtsModel", "laysOpen", "(I)V"⟩, 48), (⟨"SisterCourtsModel", "passes", "(I)I"⟩, 48), (⟨"SisterCourtsModel", "isBetter", "(III)Z"⟩, 48), (⟨"SisterCourtsModel", "loadOf", "(I)I"⟩, 48), (⟨"SisterCourtsModel", "laysBest", "(II)Z"⟩, 48), (⟨"SisterCourtsModel", "goes", "(III)V"⟩, 48), (⟨"SisterCourtsModel", "laysLoads", "()V"⟩, 48), (⟨"SisterCourtsModel", "areLess", "()Z"⟩, 48), (⟨"SisterCourtsModel", "notes", "()V"⟩, 48), (⟨"SisterCourtsModel", "laysFairer", "()Z"⟩, 48), (⟨"SisterCourtsModel", "lentBy", "(II)I"⟩, 48), (⟨"SisterCourtsModel", "owedBy", "(I)I"⟩, 48), (⟨"SisterCourtsModel", "allLoads", "()I"⟩, 48)]
theorem lw_r5 : ∀ q ∈ lw_privs_5, lw_okq q := List.forall_mem_cons.mpr ⟨lw_p64, List.forall_mem_cons.mpr ⟨lw_p65, List.forall_mem_cons.mpr ⟨lw_p66, List.forall_mem_cons.mpr ⟨lw_p67, List.forall_mem_cons.mpr ⟨lw_p68, List.forall_mem_cons.mpr ⟨lw_p69, List.forall_mem_cons.mpr ⟨lw_p70, List.forall_mem_cons.mpr ⟨lw_p71, List.forall_mem_cons.mpr ⟨lw_p72, List.forall_mem_cons.mpr ⟨lw_p73, List.forall_mem_cons.mpr ⟨lw_p74, List.forall_mem_cons.mpr ⟨lw_p75, List.forall_mem_cons.mpr ⟨lw_p76, List.forall_mem_cons.mpr ⟨lw_p77, List.forall_mem_cons.mpr ⟨lw_p78, List.forall_mem_cons.mpr ⟨lw_p79, fun _ h => absurd h List.not_mem_nil⟩⟩⟩⟩⟩⟩⟩⟩⟩⟩⟩⟩⟩⟩⟩⟩
theorem lw_p80 : lw_okq (⟨"SisterCourtsModel", "sittings", "()I"⟩, 48) := ⟨⟨by decide +kernel, by decide +kernel⟩, List.mem_of_getElem? (i := 983) (by decide +kernel), List.mem_of_getElem? (i := 1528) (by decide +kernel), List.mem_of_getElem? (i := 1529) (by decide +kernel)⟩
def lw_privs_6 : List (MethodName × Nat) := [(⟨"SisterCourtsModel", "sittings", "()I"⟩, 48)]
theorem lw_r6 : ∀ q ∈ lw_privs_6, lw_okq q := List.forall_mem_cons.mpr ⟨lw_p80, fun _ h => absurd h List.not_mem_nil⟩
def lw_privs : List (MethodName × Nat) := lw_privs_1 ++ (lw_privs_2 ++ (lw_privs_3 ++ (lw_privs_4 ++ (lw_privs_5 ++ (lw_privs_6)))))
def lw_tbl : List Cond := k2_sels lw_privs ++ tables_1
theorem lw_privs_ok : ∀ q ∈ lw_privs, lw_okq q := by
  show ∀ q ∈ lw_privs_1 ++ (lw_privs_2 ++ (lw_privs_3 ++ (lw_privs_4 ++ (lw_privs_5 ++ (lw_privs_6))))), lw_okq q
  exact List.forall_mem_append.mpr ⟨lw_r1, List.forall_mem_append.mpr ⟨lw_r2, List.forall_mem_append.mpr ⟨lw_r3, List.forall_mem_append.mpr ⟨lw_r4, List.forall_mem_append.mpr ⟨lw_r5, lw_r6⟩⟩⟩⟩⟩
/-- the streams that the claim lets the run draw from -/
abbrev lw_cs : List Choice := [Jvm.Choice.named "NaN.bits"]
theorem lw_bits : nanBits ∈ lw_cs := by first | decide | exact List.mem_cons_self | simp [lw_cs, nanBits]

def RX0 : String := "SisterCourts$Acts"
def TX0 : u_T := fun k => match k with
  | 0 => ("SisterCourts$Acts", "calendar", "LSisterCourts$Calendar;", true)
  | 1 => ("SisterCourts$Acts", "judges", "[I", true)
  | 2 => ("SisterCourts$Acts", "days", "[I", true)
  | 3 => ("SisterCourts$Acts", "kept", "I", false)
  | 4 => ("SisterCourts$Acts", "next", "I", false)
  | _ => ("SisterCourts$Acts", "held", "I", false)
def tyX0 : Nat → FieldType := fun k => match k with
  | 0 => .object "SisterCourts$Calendar"
  | 1 => .array .int
  | 2 => .array .int
  | 3 => .int
  | 4 => .int
  | _ => .int
abbrev wsX00 : List Cond := u_ws RX0 TX0 6
theorem nmX0 : ∀ a, a < 6 → ∀ b, b < 6 → a ≠ b → (TX0 a).2.1 ≠ (TX0 b).2.1 := by decide +kernel
theorem tyX0_ok : ∀ k, k < 6 → parseFieldDescriptor (TX0 k).2.2.1 = some (tyX0 k) := by decide +kernel
abbrev cX0_init : ByteArray := prog_2_method_1_code
def yX0_init : MethodName := ⟨RX0, "<init>", "(LSisterCourts$Calendar;)V"⟩
abbrev cX0_forgetAll : ByteArray := prog_2_method_2_code
def yX0_forgetAll : MethodName := ⟨RX0, "forgetAll", "()V"⟩
abbrev cX0_begin : ByteArray := prog_2_method_3_code
def yX0_begin : MethodName := ⟨RX0, "begin", "()V"⟩
abbrev cX0_takeBack : ByteArray := prog_2_method_4_code
def yX0_takeBack : MethodName := ⟨RX0, "takeBack", "()I"⟩
abbrev cX0_layKeep : ByteArray := prog_2_method_5_code
def yX0_layKeep : MethodName := ⟨RX0, "layKeep", "(I)Z"⟩
abbrev cX0_backToKeep : ByteArray := prog_2_method_6_code
def yX0_backToKeep : MethodName := ⟨RX0, "backToKeep", "(I)Z"⟩
abbrev cX0_store : ByteArray := prog_2_method_7_code
def yX0_store : MethodName := ⟨RX0, "store", "(I)V"⟩
abbrev cX0_fetch : ByteArray := prog_2_method_8_code
def yX0_fetch : MethodName := ⟨RX0, "fetch", "(I)V"⟩
def RX1 : String := "SisterCourts$BestSearch"
def TX1 : u_T := fun k => match k with
  | 0 => ("SisterCourts$BestSearch", "calendar", "LSisterCourts$Calendar;", true)
  | 1 => ("SisterCourts$BestSearch", "loads", "[I", true)
  | 2 => ("SisterCourts$BestSearch", "tried", "[I", true)
  | 3 => ("SisterCourts$BestSearch", "now", "LSisterCourts$LoadOrder;", true)
  | 4 => ("SisterCourts$BestSearch", "day", "I", false)
  | 5 => ("SisterCourts$BestSearch", "asked", "I", false)
  | 6 => ("SisterCourts$BestSearch", "heard", "I", false)
  | 7 => ("SisterCourts$BestSearch", "chosen", "[I", true)
  | _ => ("SisterCourts$BestSearch", "least", "LSisterCourts$LoadOrder;", true)
def tyX1 : Nat → FieldType := fun k => match k with
  | 0 => .object "SisterCourts$Calendar"
  | 1 => .array .int
  | 2 => .array .int
  | 3 => .object "SisterCourts$LoadOrder"
  | 4 => .int
  | 5 => .int
  | 6 => .int
  | 7 => .array .int
  | _ => .object "SisterCourts$LoadOrder"
abbrev wsX10 : List Cond := u_ws RX1 TX1 9
theorem nmX1 : ∀ a, a < 9 → ∀ b, b < 9 → a ≠ b → (TX1 a).2.1 ≠ (TX1 b).2.1 := by decide +kernel
theorem tyX1_ok : ∀ k, k < 9 → parseFieldDescriptor (TX1 k).2.2.1 = some (tyX1 k) := by decide +kernel
abbrev cX1_init : ByteArray := prog_3_method_1_code
def yX1_init : MethodName := ⟨RX1, "<init>", "(LSisterCourts$Calendar;)V"⟩
abbrev cX1_find : ByteArray := prog_3_method_2_code
def yX1_find : MethodName := ⟨RX1, "find", "(II)V"⟩
abbrev cX1_placeAll : ByteArray := prog_3_method_3_code
def yX1_placeAll : MethodName := ⟨RX1, "placeAll", "()I"⟩
abbrev cX1_tryCase : ByteArray := prog_3_method_4_code
def yX1_tryCase : MethodName := ⟨RX1, "tryCase", "(II)V"⟩
abbrev cX1_tryJudge : ByteArray := prog_3_method_5_code
def yX1_tryJudge : MethodName := ⟨RX1, "tryJudge", "(III)V"⟩
abbrev cX1_mayBeBetter : ByteArray := prog_3_method_6_code
def yX1_mayBeBetter : MethodName := ⟨RX1, "mayBeBetter", "(I)Z"⟩
abbrev cX1_remember : ByteArray := prog_3_method_7_code
def yX1_remember : MethodName := ⟨RX1, "remember", "(I)V"⟩
def RX2 : String := "SisterCourts$Bits"
def TX2 : u_T := fun k => match k with
  | _ => ("", "", "", false)
def tyX2 : Nat → FieldType := fun k => match k with
  | _ => .int
abbrev wsX20 : List Cond := u_ws RX2 TX2 0
theorem nmX2 : ∀ a, a < 0 → ∀ b, b < 0 → a ≠ b → (TX2 a).2.1 ≠ (TX2 b).2.1 := by decide +kernel
theorem tyX2_ok : ∀ k, k < 0 → parseFieldDescriptor (TX2 k).2.2.1 = some (tyX2 k) := by decide +kernel
abbrev cX2_ofFloat : ByteArray := prog_4_method_2_code
def yX2_ofFloat : MethodName := ⟨RX2, "ofFloat", "(F)I"⟩
abbrev cX2_ofDouble : ByteArray := prog_4_method_3_code
def yX2_ofDouble : MethodName := ⟨RX2, "ofDouble", "(D)J"⟩
def RX3 : String := "SisterCourts$Calendar"
def TX3 : u_T := fun k => match k with
  | 0 => ("SisterCourts$Calendar", "courts", "LSisterCourts$Courts;", false)
  | 1 => ("SisterCourts$Calendar", "judgeOf", "[I", true)
  | 2 => ("SisterCourts$Calendar", "dayOf", "[I", true)
  | _ => ("SisterCourts$Calendar", "oldest", "[I", true)
def tyX3 : Nat → FieldType := fun k => match k with
  | 0 => .object "SisterCourts$Courts"
  | 1 => .array .int
  | 2 => .array .int
  | _ => .array .int
abbrev wsX30 : List Cond := u_ws RX3 TX3 4
theorem nmX3 : ∀ a, a < 4 → ∀ b, b < 4 → a ≠ b → (TX3 a).2.1 ≠ (TX3 b).2.1 := by decide +kernel
theorem tyX3_ok : ∀ k, k < 4 → parseFieldDescriptor (TX3 k).2.2.1 = some (tyX3 k) := by decide +kernel
abbrev cX3_init : ByteArray := prog_5_method_1_code
def yX3_init : MethodName := ⟨RX3, "<init>", "(LSisterCourts$Courts;)V"⟩
abbrev cX3_startFor : ByteArray := prog_5_method_2_code
def yX3_startFor : MethodName := ⟨RX3, "startFor", "(LSisterCourts$Courts;)V"⟩
abbrev cX3_place : ByteArray := prog_5_method_3_code
def yX3_place : MethodName := ⟨RX3, "place", "(III)V"⟩
abbrev cX3_remove : ByteArray := prog_5_method_4_code
def yX3_remove : MethodName := ⟨RX3, "remove", "(I)V"⟩
abbrev cX3_hasSitting : ByteArray := prog_5_method_5_code
def yX3_hasSitting : MethodName := ⟨RX3, "hasSitting", "(I)Z"⟩
abbrev cX3_whyNot : ByteArray := prog_5_method_6_code
def yX3_whyNot : MethodName := ⟨RX3, "whyNot", "(III)I"⟩
abbrev cX3_isTooFar : ByteArray := prog_5_method_7_code
def yX3_isTooFar : MethodName := ⟨RX3, "isTooFar", "(III)Z"⟩
abbrev cX3_meetsQuarrel : ByteArray := prog_5_method_8_code
def yX3_meetsQuarrel : MethodName := ⟨RX3, "meetsQuarrel", "(III)Z"⟩
abbrev cX3_townOn : ByteArray := prog_5_method_9_code
def yX3_townOn : MethodName := ⟨RX3, "townOn", "(II)I"⟩
abbrev cX3_minutesOn : ByteArray := prog_5_method_10_code
def yX3_minutesOn : MethodName := ⟨RX3, "minutesOn", "(II)I"⟩
abbrev cX3_loadOf : ByteArray := prog_5_method_11_code
def yX3_loadOf : MethodName := ⟨RX3, "loadOf", "(I)I"⟩
abbrev cX3_isFirstOfHisDay : ByteArray := prog_5_method_12_code
def yX3_isFirstOfHisDay : MethodName := ⟨RX3, "isFirstOfHisDay", "(I)Z"⟩
abbrev cX3_sumOfLoads : ByteArray := prog_5_method_13_code
def yX3_sumOfLoads : MethodName := ⟨RX3, "sumOfLoads", "()I"⟩
abbrev cX3_placeByLoad : ByteArray := prog_5_method_14_code
def yX3_placeByLoad : MethodName := ⟨RX3, "placeByLoad", "(I)I"⟩
abbrev cX3_sittings : ByteArray := prog_5_method_15_code
def yX3_sittings : MethodName := ⟨RX3, "sittings", "()I"⟩
abbrev cX3_sumOfAges : ByteArray := prog_5_method_16_code
def yX3_sumOfAges : MethodName := ⟨RX3, "sumOfAges", "()I"⟩
abbrev cX3_listOpen : ByteArray := prog_5_method_17_code
def yX3_listOpen : MethodName := ⟨RX3, "listOpen", "(I)I"⟩
abbrev cX3_goThrough : ByteArray := prog_5_method_18_code
def yX3_goThrough : MethodName := ⟨RX3, "goThrough", "(I)I"⟩
abbrev cX3_leastLoaded : ByteArray := prog_5_method_19_code
def yX3_leastLoaded : MethodName := ⟨RX3, "leastLoaded", "(II)I"⟩
abbrev cX3_isRather : ByteArray := prog_5_method_20_code
def yX3_isRather : MethodName := ⟨RX3, "isRather", "(III)Z"⟩
def RX4 : String := "SisterCourts$Courts"
def TX4 : u_T := fun k => match k with
  | 0 => ("SisterCourts$Courts", "towns", "I", false)
  | 1 => ("SisterCourts$Courts", "judges", "I", false)
  | 2 => ("SisterCourts$Courts", "cases", "I", false)
  | 3 => ("SisterCourts$Courts", "days", "[I", true)
  | 4 => ("SisterCourts$Courts", "home", "[I", true)
  | 5 => ("SisterCourts$Courts", "daily", "[I", true)
  | 6 => ("SisterCourts$Courts", "sorts", "[I", true)
  | 7 => ("SisterCourts$Courts", "quarrels", "[I", true)
  | 8 => ("SisterCourts$Courts", "townOf", "[I", true)
  | 9 => ("SisterCourts$Courts", "sortOf", "[I", true)
  | 10 => ("SisterCourts$Courts", "filed", "[I", true)
  | 11 => ("SisterCourts$Courts", "length", "[I", true)
  | _ => ("SisterCourts$Courts", "barred", "[I", true)
def tyX4 : Nat → FieldType := fun k => match k with
  | 0 => .int
  | 1 => .int
  | 2 => .int
  | 3 => .array .int
  | 4 => .array .int
  | 5 => .array .int
  | 6 => .array .int
  | 7 => .array .int
  | 8 => .array .int
  | 9 => .array .int
  | 10 => .array .int
  | 11 => .array .int
  | _ => .array .int
abbrev wsX40 : List Cond := u_ws RX4 TX4 13
theorem nmX4 : ∀ a, a < 13 → ∀ b, b < 13 → a ≠ b → (TX4 a).2.1 ≠ (TX4 b).2.1 := by decide +kernel
theorem tyX4_ok : ∀ k, k < 13 → parseFieldDescriptor (TX4 k).2.2.1 = some (tyX4 k) := by decide +kernel
abbrev cX4_init : ByteArray := prog_6_method_1_code
def yX4_init : MethodName := ⟨RX4, "<init>", "()V"⟩
abbrev cX4_forget : ByteArray := prog_6_method_2_code
def yX4_forget : MethodName := ⟨RX4, "forget", "()V"⟩
abbrev cX4_hasTown : ByteArray := prog_6_method_3_code
def yX4_hasTown : MethodName := ⟨RX4, "hasTown", "(I)Z"⟩
abbrev cX4_hasJudge : ByteArray := prog_6_method_4_code
def yX4_hasJudge : MethodName := ⟨RX4, "hasJudge", "(I)Z"⟩
abbrev cX4_hasCase : ByteArray := prog_6_method_5_code
def yX4_hasCase : MethodName := ⟨RX4, "hasCase", "(I)Z"⟩
abbrev cX4_way : ByteArray := prog_6_method_6_code
def yX4_way : MethodName := ⟨RX4, "way", "(II)I"⟩
abbrev cX4_addTown : ByteArray := prog_6_method_7_code
def yX4_addTown : MethodName := ⟨RX4, "addTown", "()V"⟩
abbrev cX4_layRoad : ByteArray := prog_6_method_8_code
def yX4_layRoad : MethodName := ⟨RX4, "layRoad", "(III)V"⟩
abbrev cX4_addJudge : ByteArray := prog_6_method_9_code
def yX4_addJudge : MethodName := ⟨RX4, "addJudge", "(III)V"⟩
abbrev cX4_addQuarrel : ByteArray := prog_6_method_10_code
def yX4_addQuarrel : MethodName := ⟨RX4, "addQuarrel", "(II)V"⟩
abbrev cX4_addCase : ByteArray := prog_6_method_11_code
def yX4_addCase : MethodName := ⟨RX4, "addCase", "(IIIII)V"⟩
abbrev cX4_findWays : ByteArray := prog_6_method_12_code
def yX4_findWays : MethodName := ⟨RX4, "findWays", "()V"⟩
def RX5 : String := "SisterCourts$Debts"
def TX5 : u_T := fun k => match k with
  | 0 => ("SisterCourts$Debts", "calendar", "LSisterCourts$Calendar;", true)
  | 1 => ("SisterCourts$Debts", "sums", "[I", true)
  | _ => ("SisterCourts$Debts", "groups", "[I", true)
def tyX5 : Nat → FieldType := fun k => match k with
  | 0 => .object "SisterCourts$Calendar"
  | 1 => .array .int
  | _ => .array .int
abbrev wsX50 : List Cond := u_ws RX5 TX5 3
theorem nmX5 : ∀ a, a < 3 → ∀ b, b < 3 → a ≠ b → (TX5 a).2.1 ≠ (TX5 b).2.1 := by decide +kernel
theorem tyX5_ok : ∀ k, k < 3 → parseFieldDescriptor (TX5 k).2.2.1 = some (tyX5 k) := by decide +kernel
abbrev cX5_init : ByteArray := prog_7_method_1_code
def yX5_init : MethodName := ⟨RX5, "<init>", "(LSisterCourts$Calendar;)V"⟩
abbrev cX5_minutesLent : ByteArray := prog_7_method_2_code
def yX5_minutesLent : MethodName := ⟨RX5, "minutesLent", "(II)I"⟩
abbrev cX5_owedBy : ByteArray := prog_7_method_3_code
def yX5_owedBy : MethodName := ⟨RX5, "owedBy", "(I)I"⟩
abbrev cX5_fewestPayments : ByteArray := prog_7_method_4_code
def yX5_fewestPayments : MethodName := ⟨RX5, "fewestPayments", "()I"⟩
abbrev cX5_mostGroups : ByteArray := prog_7_method_5_code
def yX5_mostGroups : MethodName := ⟨RX5, "mostGroups", "(II)I"⟩
def RX6 : String := "SisterCourts$FairerSearch"
def TX6 : u_T := fun k => match k with
  | 0 => ("SisterCourts$FairerSearch", "calendar", "LSisterCourts$Calendar;", true)
  | 1 => ("SisterCourts$FairerSearch", "loads", "[I", true)
  | 2 => ("SisterCourts$FairerSearch", "now", "LSisterCourts$LoadOrder;", true)
  | 3 => ("SisterCourts$FairerSearch", "least", "LSisterCourts$LoadOrder;", true)
  | 4 => ("SisterCourts$FairerSearch", "file", "I", false)
  | _ => ("SisterCourts$FairerSearch", "judge", "I", false)
def tyX6 : Nat → FieldType := fun k => match k with
  | 0 => .object "SisterCourts$Calendar"
  | 1 => .array .int
  | 2 => .object "SisterCourts$LoadOrder"
  | 3 => .object "SisterCourts$LoadOrder"
  | 4 => .int
  | _ => .int
abbrev wsX60 : List Cond := u_ws RX6 TX6 6
theorem nmX6 : ∀ a, a < 6 → ∀ b, b < 6 → a ≠ b → (TX6 a).2.1 ≠ (TX6 b).2.1 := by decide +kernel
theorem tyX6_ok : ∀ k, k < 6 → parseFieldDescriptor (TX6 k).2.2.1 = some (tyX6 k) := by decide +kernel
abbrev cX6_init : ByteArray := prog_8_method_1_code
def yX6_init : MethodName := ⟨RX6, "<init>", "(LSisterCourts$Calendar;)V"⟩
abbrev cX6_find : ByteArray := prog_8_method_2_code
def yX6_find : MethodName := ⟨RX6, "find", "()V"⟩
abbrev cX6_tryOthers : ByteArray := prog_8_method_3_code
def yX6_tryOthers : MethodName := ⟨RX6, "tryOthers", "(III)V"⟩
abbrev cX6_compare : ByteArray := prog_8_method_4_code
def yX6_compare : MethodName := ⟨RX6, "compare", "(II)V"⟩
abbrev cX6_sortInto : ByteArray := prog_8_method_5_code
def yX6_sortInto : MethodName := ⟨RX6, "sortInto", "(LSisterCourts$LoadOrder;)V"⟩
def RX7 : String := "SisterCourts$LoadOrder"
def TX7 : u_T := fun k => match k with
  | 0 => ("SisterCourts$LoadOrder", "sorted", "[I", true)
  | _ => ("SisterCourts$LoadOrder", "many", "I", false)
def tyX7 : Nat → FieldType := fun k => match k with
  | 0 => .array .int
  | _ => .int
abbrev wsX70 : List Cond := u_ws RX7 TX7 2
theorem nmX7 : ∀ a, a < 2 → ∀ b, b < 2 → a ≠ b → (TX7 a).2.1 ≠ (TX7 b).2.1 := by decide +kernel
theorem tyX7_ok : ∀ k, k < 2 → parseFieldDescriptor (TX7 k).2.2.1 = some (tyX7 k) := by decide +kernel
abbrev cX7_init : ByteArray := prog_9_method_1_code
def yX7_init : MethodName := ⟨RX7, "<init>", "()V"⟩
abbrev cX7_sort : ByteArray := prog_9_method_2_code
def yX7_sort : MethodName := ⟨RX7, "sort", "([II)V"⟩
abbrev cX7_isLessThan : ByteArray := prog_9_method_3_code
def yX7_isLessThan : MethodName := ⟨RX7, "isLessThan", "(LSisterCourts$LoadOrder;)Z"⟩
abbrev cX7_greatest : ByteArray := prog_9_method_4_code
def yX7_greatest : MethodName := ⟨RX7, "greatest", "()I"⟩
abbrev cX7_sumOfSquares : ByteArray := prog_9_method_5_code
def yX7_sumOfSquares : MethodName := ⟨RX7, "sumOfSquares", "()J"⟩
def RX8 : String := "SisterCourts$Names"
def TX8 : u_T := fun k => match k with
  | 0 => ("SisterCourts$Names", "words", "[J", true)
  | 1 => ("SisterCourts$Names", "kinds", "[I", true)
  | 2 => ("SisterCourts$Names", "numbers", "[I", true)
  | _ => ("SisterCourts$Names", "told", "I", false)
def tyX8 : Nat → FieldType := fun k => match k with
  | 0 => .array .long
  | 1 => .array .int
  | 2 => .array .int
  | _ => .int
abbrev wsX80 : List Cond := u_ws RX8 TX8 4
theorem nmX8 : ∀ a, a < 4 → ∀ b, b < 4 → a ≠ b → (TX8 a).2.1 ≠ (TX8 b).2.1 := by decide +kernel
theorem tyX8_ok : ∀ k, k < 4 → parseFieldDescriptor (TX8 k).2.2.1 = some (tyX8 k) := by decide +kernel
abbrev cX8_init : ByteArray := prog_10_method_1_code
def yX8_init : MethodName := ⟨RX8, "<init>", "()V"⟩
abbrev cX8_forget : ByteArray := prog_10_method_2_code
def yX8_forget : MethodName := ⟨RX8, "forget", "()V"⟩
abbrev cX8_add : ByteArray := prog_10_method_3_code
def yX8_add : MethodName := ⟨RX8, "add", "(JII)V"⟩
abbrev cX8_has : ByteArray := prog_10_method_4_code
def yX8_has : MethodName := ⟨RX8, "has", "(J)Z"⟩
abbrev cX8_numberOf : ByteArray := prog_10_method_5_code
def yX8_numberOf : MethodName := ⟨RX8, "numberOf", "(JI)I"⟩
abbrev cX8_find : ByteArray := prog_10_method_6_code
def yX8_find : MethodName := ⟨RX8, "find", "(J)I"⟩
def RX9 : String := "SisterCourts$Reader"
def TX9 : u_T := fun k => match k with
  | 0 => ("SisterCourts$Reader", "scanner", "LSisterCourts$Scanner;", true)
  | 1 => ("SisterCourts$Reader", "names", "LSisterCourts$Names;", true)
  | 2 => ("SisterCourts$Reader", "into", "LSisterCourts$Courts;", false)
  | _ => ("SisterCourts$Reader", "fault", "I", false)
def tyX9 : Nat → FieldType := fun k => match k with
  | 0 => .object "SisterCourts$Scanner"
  | 1 => .object "SisterCourts$Names"
  | 2 => .object "SisterCourts$Courts"
  | _ => .int
abbrev wsX90 : List Cond := u_ws RX9 TX9 4
theorem nmX9 : ∀ a, a < 4 → ∀ b, b < 4 → a ≠ b → (TX9 a).2.1 ≠ (TX9 b).2.1 := by decide +kernel
theorem tyX9_ok : ∀ k, k < 4 → parseFieldDescriptor (TX9 k).2.2.1 = some (tyX9 k) := by decide +kernel
abbrev cX9_init : ByteArray := prog_11_method_1_code
def yX9_init : MethodName := ⟨RX9, "<init>", "([BLSisterCourts$Courts;)V"⟩
abbrev cX9_start : ByteArray := prog_11_method_2_code
def yX9_start : MethodName := ⟨RX9, "start", "(ILSisterCourts$Courts;)V"⟩
abbrev cX9_hasMore : ByteArray := prog_11_method_3_code
def yX9_hasMore : MethodName := ⟨RX9, "hasMore", "()Z"⟩
abbrev cX9_refuse : ByteArray := prog_11_method_4_code
def yX9_refuse : MethodName := ⟨RX9, "refuse", "(I)Z"⟩
abbrev cX9_refuseNumber : ByteArray := prog_11_method_5_code
def yX9_refuseNumber : MethodName := ⟨RX9, "refuseNumber", "(I)I"⟩
abbrev cX9_readLine : ByteArray := prog_11_method_6_code
def yX9_readLine : MethodName := ⟨RX9, "readLine", "()Z"⟩
abbrev cX9_readTown : ByteArray := prog_11_method_7_code
def yX9_readTown : MethodName := ⟨RX9, "readTown", "()Z"⟩
abbrev cX9_readRoad : ByteArray := prog_11_method_8_code
def yX9_readRoad : MethodName := ⟨RX9, "readRoad", "()Z"⟩
abbrev cX9_readJudge : ByteArray := prog_11_method_9_code
def yX9_readJudge : MethodName := ⟨RX9, "readJudge", "()Z"⟩
abbrev cX9_readQuarrel : ByteArray := prog_11_method_10_code
def yX9_readQuarrel : MethodName := ⟨RX9, "readQuarrel", "()Z"⟩
abbrev cX9_readCase : ByteArray := prog_11_method_11_code
def yX9_readCase : MethodName := ⟨RX9, "readCase", "()Z"⟩
abbrev cX9_lineEnd : ByteArray := prog_11_method_12_code
def yX9_lineEnd : MethodName := ⟨RX9, "lineEnd", "()Z"⟩
abbrev cX9_newName : ByteArray := prog_11_method_13_code
def yX9_newName : MethodName := ⟨RX9, "newName", "(II)Z"⟩
abbrev cX9_toldName : ByteArray := prog_11_method_14_code
def yX9_toldName : MethodName := ⟨RX9, "toldName", "(II)I"⟩
abbrev cX9_numberWithin : ByteArray := prog_11_method_15_code
def yX9_numberWithin : MethodName := ⟨RX9, "numberWithin", "(II)I"⟩
abbrev cX9_unlikeSorts : ByteArray := prog_11_method_16_code
def yX9_unlikeSorts : MethodName := ⟨RX9, "unlikeSorts", "()I"⟩
abbrev cX9_unlikeSort : ByteArray := prog_11_method_17_code
def yX9_unlikeSort : MethodName := ⟨RX9, "unlikeSort", "(I)I"⟩
abbrev cX9_barredJudges : ByteArray := prog_11_method_18_code
def yX9_barredJudges : MethodName := ⟨RX9, "barredJudges", "()I"⟩
abbrev cX9_atName : ByteArray := prog_11_method_19_code
def yX9_atName : MethodName := ⟨RX9, "atName", "()Z"⟩
abbrev cX9_sortHere : ByteArray := prog_11_method_20_code
def yX9_sortHere : MethodName := ⟨RX9, "sortHere", "()I"⟩
def RX10 : String := "SisterCourts$Scanner"
def TX10 : u_T := fun k => match k with
  | 0 => ("SisterCourts$Scanner", "bytes", "[B", true)
  | 1 => ("SisterCourts$Scanner", "end", "I", false)
  | 2 => ("SisterCourts$Scanner", "next", "I", false)
  | 3 => ("SisterCourts$Scanner", "place", "I", false)
  | 4 => ("SisterCourts$Scanner", "kind", "I", false)
  | 5 => ("SisterCourts$Scanner", "word", "J", false)
  | _ => ("SisterCourts$Scanner", "number", "I", false)
def tyX10 : Nat → FieldType := fun k => match k with
  | 0 => .array .byte
  | 1 => .int
  | 2 => .int
  | 3 => .int
  | 4 => .int
  | 5 => .long
  | _ => .int
abbrev wsX100 : List Cond := u_ws RX10 TX10 7
theorem nmX10 : ∀ a, a < 7 → ∀ b, b < 7 → a ≠ b → (TX10 a).2.1 ≠ (TX10 b).2.1 := by decide +kernel
theorem tyX10_ok : ∀ k, k < 7 → parseFieldDescriptor (TX10 k).2.2.1 = some (tyX10 k) := by decide +kernel
abbrev cX10_init : ByteArray := prog_12_method_1_code
def yX10_init : MethodName := ⟨RX10, "<init>", "([B)V"⟩
abbrev cX10_start : ByteArray := prog_12_method_2_code
def yX10_start : MethodName := ⟨RX10, "start", "(I)V"⟩
abbrev cX10_isWord : ByteArray := prog_12_method_3_code
def yX10_isWord : MethodName := ⟨RX10, "isWord", "(J)Z"⟩
abbrev cX10_advance : ByteArray := prog_12_method_4_code
def yX10_advance : MethodName := ⟨RX10, "advance", "()V"⟩
abbrev cX10_takeWord : ByteArray := prog_12_method_5_code
def yX10_takeWord : MethodName := ⟨RX10, "takeWord", "()V"⟩
abbrev cX10_takeNumber : ByteArray := prog_12_method_6_code
def yX10_takeNumber : MethodName := ⟨RX10, "takeNumber", "()V"⟩
def RX11 : String := "SisterCourts"
def TX11 : u_T := fun k => match k with
  | 0 => ("SisterCourts", "tape", "[B", true)
  | 1 => ("SisterCourts", "taped", "I", false)
  | 2 => ("SisterCourts", "reader", "LSisterCourts$Reader;", true)
  | 3 => ("SisterCourts", "told", "LSisterCourts$Courts;", false)
  | 4 => ("SisterCourts", "spare", "LSisterCourts$Courts;", false)
  | 5 => ("SisterCourts", "calendar", "LSisterCourts$Calendar;", true)
  | 6 => ("SisterCourts", "search", "LSisterCourts$BestSearch;", true)
  | 7 => ("SisterCourts", "balance", "LSisterCourts$FairerSearch;", true)
  | 8 => ("SisterCourts", "debts", "LSisterCourts$Debts;", true)
  | _ => ("SisterCourts", "acts", "LSisterCourts$Acts;", true)
def tyX11 : Nat → FieldType := fun k => match k with
  | 0 => .array .byte
  | 1 => .int
  | 2 => .object "SisterCourts$Reader"
  | 3 => .object "SisterCourts$Courts"
  | 4 => .object "SisterCourts$Courts"
  | 5 => .object "SisterCourts$Calendar"
  | 6 => .object "SisterCourts$BestSearch"
  | 7 => .object "SisterCourts$FairerSearch"
  | 8 => .object "SisterCourts$Debts"
  | _ => .object "SisterCourts$Acts"
abbrev wsX110 : List Cond := u_ws RX11 TX11 10
theorem nmX11 : ∀ a, a < 10 → ∀ b, b < 10 → a ≠ b → (TX11 a).2.1 ≠ (TX11 b).2.1 := by decide +kernel
theorem tyX11_ok : ∀ k, k < 10 → parseFieldDescriptor (TX11 k).2.2.1 = some (tyX11 k) := by decide +kernel
abbrev cX11_init : ByteArray := prog_1_method_1_code
def yX11_init : MethodName := ⟨RX11, "<init>", "()V"⟩
abbrev cX11_feed : ByteArray := prog_1_method_2_code
def yX11_feed : MethodName := ⟨RX11, "feed", "(IIIII)I"⟩
abbrev cX11_putOnTape : ByteArray := prog_1_method_3_code
def yX11_putOnTape : MethodName := ⟨RX11, "putOnTape", "(I)V"⟩
abbrev cX11_courts : ByteArray := prog_1_method_4_code
def yX11_courts : MethodName := ⟨RX11, "courts", "(I)I"⟩
abbrev cX11_beginWithSpare : ByteArray := prog_1_method_5_code
def yX11_beginWithSpare : MethodName := ⟨RX11, "beginWithSpare", "()V"⟩
abbrev cX11_travel : ByteArray := prog_1_method_6_code
def yX11_travel : MethodName := ⟨RX11, "travel", "(II)I"⟩
abbrev cX11_judge : ByteArray := prog_1_method_7_code
def yX11_judge : MethodName := ⟨RX11, "judge", "(II)I"⟩
abbrev cX11_file : ByteArray := prog_1_method_8_code
def yX11_file : MethodName := ⟨RX11, "file", "(II)I"⟩
abbrev cX11_why : ByteArray := prog_1_method_9_code
def yX11_why : MethodName := ⟨RX11, "why", "(III)I"⟩
abbrev cX11_set : ByteArray := prog_1_method_10_code
def yX11_set : MethodName := ⟨RX11, "set", "(III)Z"⟩
abbrev cX11_clear : ByteArray := prog_1_method_11_code
def yX11_clear : MethodName := ⟨RX11, "clear", "(I)I"⟩
abbrev cX11_sits : ByteArray := prog_1_method_12_code
def yX11_sits : MethodName := ⟨RX11, "sits", "(II)I"⟩
abbrev cX11_minutes : ByteArray := prog_1_method_13_code
def yX11_minutes : MethodName := ⟨RX11, "minutes", "(II)I"⟩
abbrev cX11_open : ByteArray := prog_1_method_14_code
def yX11_open : MethodName := ⟨RX11, "open", "(II)I"⟩
abbrev cX11_go : ByteArray := prog_1_method_15_code
def yX11_go : MethodName := ⟨RX11, "go", "(II)I"⟩
abbrev cX11_best : ByteArray := prog_1_method_16_code
def yX11_best : MethodName := ⟨RX11, "best", "(III)J"⟩
abbrev cX11_bestOf : ByteArray := prog_1_method_17_code
def yX11_bestOf : MethodName := ⟨RX11, "bestOf", "(III)I"⟩
abbrev cX11_take : ByteArray := prog_1_method_18_code
def yX11_take : MethodName := ⟨RX11, "take", "(II)I"⟩
abbrev cX11_mayAskBest : ByteArray := prog_1_method_19_code
def yX11_mayAskBest : MethodName := ⟨RX11, "mayAskBest", "(II)Z"⟩
abbrev cX11_load : ByteArray := prog_1_method_20_code
def yX11_load : MethodName := ⟨RX11, "load", "(I)I"⟩
abbrev cX11_ranked : ByteArray := prog_1_method_21_code
def yX11_ranked : MethodName := ⟨RX11, "ranked", "(I)I"⟩
abbrev cX11_fairer : ByteArray := prog_1_method_22_code
def yX11_fairer : MethodName := ⟨RX11, "fairer", "(I)I"⟩
abbrev cX11_even : ByteArray := prog_1_method_23_code
def yX11_even : MethodName := ⟨RX11, "even", "(I)I"⟩
abbrev cX11_lent : ByteArray := prog_1_method_24_code
def yX11_lent : MethodName := ⟨RX11, "lent", "(II)I"⟩
abbrev cX11_owed : ByteArray := prog_1_method_25_code
def yX11_owed : MethodName := ⟨RX11, "owed", "(I)I"⟩
abbrev cX11_payments : ByteArray := prog_1_method_26_code
def yX11_payments : MethodName := ⟨RX11, "payments", "()I"⟩
abbrev cX11_share : ByteArray := prog_1_method_27_code
def yX11_share : MethodName := ⟨RX11, "share", "(I)I"⟩
abbrev cX11_spread : ByteArray := prog_1_method_28_code
def yX11_spread : MethodName := ⟨RX11, "spread", "()J"⟩
abbrev cX11_waited : ByteArray := prog_1_method_29_code
def yX11_waited : MethodName := ⟨RX11, "waited", "()I"⟩
abbrev cX11_undo : ByteArray := prog_1_method_30_code
def yX11_undo : MethodName := ⟨RX11, "undo", "()I"⟩
abbrev cX11_keep : ByteArray := prog_1_method_31_code
def yX11_keep : MethodName := ⟨RX11, "keep", "(IZ)Z"⟩
abbrev cX11_count : ByteArray := prog_1_method_32_code
def yX11_count : MethodName := ⟨RX11, "count", "(I)I"⟩
abbrev cX11_isDay : ByteArray := prog_1_method_33_code
def yX11_isDay : MethodName := ⟨RX11, "isDay", "(I)Z"⟩
def RX12 : String := "SisterCourtsModel"
def TX12 : u_T := fun k => match k with
  | 0 => ("SisterCourtsModel", "thrown", "I", false)
  | 1 => ("SisterCourtsModel", "tape", "[B", true)
  | 2 => ("SisterCourtsModel", "taped", "I", false)
  | 3 => ("SisterCourtsModel", "size", "I", false)
  | 4 => ("SisterCourtsModel", "from", "I", false)
  | 5 => ("SisterCourtsModel", "to", "I", false)
  | 6 => ("SisterCourtsModel", "token", "I", false)
  | 7 => ("SisterCourtsModel", "value", "I", false)
  | 8 => ("SisterCourtsModel", "word", "J", false)
  | 9 => ("SisterCourtsModel", "fault", "I", false)
  | 10 => ("SisterCourtsModel", "faultPlace", "I", false)
  | 11 => ("SisterCourtsModel", "numberHere", "I", false)
  | 12 => ("SisterCourtsModel", "bench", "I", false)
  | 13 => ("SisterCourtsModel", "towns", "[I", true)
  | 14 => ("SisterCourtsModel", "judges", "[I", true)
  | 15 => ("SisterCourtsModel", "cases", "[I", true)
  | 16 => ("SisterCourtsModel", "townName", "[J", true)
  | 17 => ("SisterCourtsModel", "judgeName", "[J", true)
  | 18 => ("SisterCourtsModel", "caseName", "[J", true)
  | 19 => ("SisterCourtsModel", "road", "[I", true)
  | 20 => ("SisterCourtsModel", "home", "[I", true)
  | 21 => ("SisterCourtsModel", "minutesOf", "[I", true)
  | 22 => ("SisterCourtsModel", "sortsOf", "[I", true)
  | 23 => ("SisterCourtsModel", "quarrels", "[I", true)
  | 24 => ("SisterCourtsModel", "townOf", "[I", true)
  | 25 => ("SisterCourtsModel", "sortOf", "[I", true)
  | 26 => ("SisterCourtsModel", "filed", "[I", true)
  | 27 => ("SisterCourtsModel", "length", "[I", true)
  | 28 => ("SisterCourtsModel", "bars", "[I", true)
  | 29 => ("SisterCourtsModel", "nameHere", "J", false)
  | 30 => ("SisterCourtsModel", "foundHere", "I", false)
  | 31 => ("SisterCourtsModel", "s", "[I", true)
  | 32 => ("SisterCourtsModel", "undone", "[I", true)
  | 33 => ("SisterCourtsModel", "undos", "I", false)
  | 34 => ("SisterCourtsModel", "kept", "[I", true)
  | 35 => ("SisterCourtsModel", "isKept", "[Z", true)
  | 36 => ("SisterCourtsModel", "ways", "[I", true)
  | 37 => ("SisterCourtsModel", "row", "[I", true)
  | 38 => ("SisterCourtsModel", "many", "I", false)
  | 39 => ("SisterCourtsModel", "loads", "[I", true)
  | 40 => ("SisterCourtsModel", "least", "[I", true)
  | 41 => ("SisterCourtsModel", "given", "[I", true)
  | 42 => ("SisterCourtsModel", "bestGiven", "[I", true)
  | 43 => ("SisterCourtsModel", "bestHeard", "I", false)
  | 44 => ("SisterCourtsModel", "asked", "I", false)
  | 45 => ("SisterCourtsModel", "fairCase", "I", false)
  | 46 => ("SisterCourtsModel", "fairJudge", "I", false)
  | _ => ("SisterCourtsModel", "groups", "[I", true)
def tyX12 : Nat → FieldType := fun k => match k with
  | 0 => .int
  | 1 => .array .byte
  | 2 => .int
  | 3 => .int
  | 4 => .int
  | 5 => .int
  | 6 => .int
  | 7 => .int
  | 8 => .long
  | 9 => .int
  | 10 => .int
  | 11 => .int
  | 12 => .int
  | 13 => .array .int
  | 14 => .array .int
  | 15 => .array .int
  | 16 => .array .long
  | 17 => .array .long
  | 18 => .array .long
  | 19 => .array .int
  | 20 => .array .int
  | 21 => .array .int
  | 22 => .array .int
  | 23 => .array .int
  | 24 => .array .int
  | 25 => .array .int
  | 26 => .array .int
  | 27 => .array .int
  | 28 => .array .int
  | 29 => .long
  | 30 => .int
  | 31 => .array .int
  | 32 => .array .int
  | 33 => .int
  | 34 => .array .int
  | 35 => .array .boolean
  | 36 => .array .int
  | 37 => .array .int
  | 38 => .int
  | 39 => .array .int
  | 40 => .array .int
  | 41 => .array .int
  | 42 => .array .int
  | 43 => .int
  | 44 => .int
  | 45 => .int
  | 46 => .int
  | _ => .array .int
abbrev wsX120 : List Cond := u_ws RX12 TX12 48
theorem nmX12 : ∀ a, a < 48 → ∀ b, b < 48 → a ≠ b → (TX12 a).2.1 ≠ (TX12 b).2.1 := by decide +kernel
theorem tyX12_ok : ∀ k, k < 48 → parseFieldDescriptor (TX12 k).2.2.1 = some (tyX12 k) := by decide +kernel
abbrev cX12_init : ByteArray := prog_14_method_1_code
def yX12_init : MethodName := ⟨RX12, "<init>", "()V"⟩
abbrev cX12_thrown : ByteArray := prog_14_method_2_code
def yX12_thrown : MethodName := ⟨RX12, "thrown", "()I"⟩
abbrev cX12_within : ByteArray := prog_14_method_3_code
def yX12_within : MethodName := ⟨RX12, "within", "(JJJ)Z"⟩
abbrev cX12_puts : ByteArray := prog_14_method_4_code
def yX12_puts : MethodName := ⟨RX12, "puts", "(I)V"⟩
abbrev cX12_feed : ByteArray := prog_14_method_5_code
def yX12_feed : MethodName := ⟨RX12, "feed", "(IIIII)I"⟩
abbrev cX12_see : ByteArray := prog_14_method_6_code
def yX12_see : MethodName := ⟨RX12, "see", "(I)I"⟩
abbrev cX12_steps : ByteArray := prog_14_method_7_code
def yX12_steps : MethodName := ⟨RX12, "steps", "()V"⟩
abbrev cX12_must : ByteArray := prog_14_method_8_code
def yX12_must : MethodName := ⟨RX12, "must", "(ZI)Z"⟩
abbrev cX12_spelled : ByteArray := prog_14_method_9_code
def yX12_spelled : MethodName := ⟨RX12, "spelled", "(Ljava/lang/String;)J"⟩
abbrev cX12_is : ByteArray := prog_14_method_10_code
def yX12_is : MethodName := ⟨RX12, "is", "(Ljava/lang/String;)Z"⟩
abbrev cX12_sortHere : ByteArray := prog_14_method_11_code
def yX12_sortHere : MethodName := ⟨RX12, "sortHere", "()I"⟩
abbrev cX12_isName : ByteArray := prog_14_method_12_code
def yX12_isName : MethodName := ⟨RX12, "isName", "()Z"⟩
abbrev cX12_takesNumber : ByteArray := prog_14_method_13_code
def yX12_takesNumber : MethodName := ⟨RX12, "takesNumber", "(II)Z"⟩
abbrev cX12_townNamed : ByteArray := prog_14_method_14_code
def yX12_townNamed : MethodName := ⟨RX12, "townNamed", "()I"⟩
abbrev cX12_judgeNamed : ByteArray := prog_14_method_15_code
def yX12_judgeNamed : MethodName := ⟨RX12, "judgeNamed", "()I"⟩
abbrev cX12_isCaseNamed : ByteArray := prog_14_method_16_code
def yX12_isCaseNamed : MethodName := ⟨RX12, "isCaseNamed", "()Z"⟩
abbrev cX12_newName : ByteArray := prog_14_method_17_code
def yX12_newName : MethodName := ⟨RX12, "newName", "()Z"⟩
abbrev cX12_takesTold : ByteArray := prog_14_method_18_code
def yX12_takesTold : MethodName := ⟨RX12, "takesTold", "(ZI)Z"⟩
abbrev cX12_townLine : ByteArray := prog_14_method_19_code
def yX12_townLine : MethodName := ⟨RX12, "townLine", "()Z"⟩
abbrev cX12_roadLine : ByteArray := prog_14_method_20_code
def yX12_roadLine : MethodName := ⟨RX12, "roadLine", "()Z"⟩
abbrev cX12_judgeLine : ByteArray := prog_14_method_21_code
def yX12_judgeLine : MethodName := ⟨RX12, "judgeLine", "()Z"⟩
abbrev cX12_quarrelLine : ByteArray := prog_14_method_22_code
def yX12_quarrelLine : MethodName := ⟨RX12, "quarrelLine", "()Z"⟩
abbrev cX12_caseLine : ByteArray := prog_14_method_23_code
def yX12_caseLine : MethodName := ⟨RX12, "caseLine", "()Z"⟩
abbrev cX12_lineHere : ByteArray := prog_14_method_24_code
def yX12_lineHere : MethodName := ⟨RX12, "lineHere", "()Z"⟩
abbrev cX12_copies : ByteArray := prog_14_method_25_code
def yX12_copies : MethodName := ⟨RX12, "copies", "()V"⟩
abbrev cX12_laysWays : ByteArray := prog_14_method_26_code
def yX12_laysWays : MethodName := ⟨RX12, "laysWays", "()V"⟩
abbrev cX12_courts : ByteArray := prog_14_method_27_code
def yX12_courts : MethodName := ⟨RX12, "courts", "(I)I"⟩
abbrev cX12_isTown : ByteArray := prog_14_method_28_code
def yX12_isTown : MethodName := ⟨RX12, "isTown", "(I)Z"⟩
abbrev cX12_isJudge : ByteArray := prog_14_method_29_code
def yX12_isJudge : MethodName := ⟨RX12, "isJudge", "(I)Z"⟩
abbrev cX12_isCase : ByteArray := prog_14_method_30_code
def yX12_isCase : MethodName := ⟨RX12, "isCase", "(I)Z"⟩
abbrev cX12_isDay : ByteArray := prog_14_method_31_code
def yX12_isDay : MethodName := ⟨RX12, "isDay", "(I)Z"⟩
abbrev cX12_travel : ByteArray := prog_14_method_32_code
def yX12_travel : MethodName := ⟨RX12, "travel", "(II)I"⟩
abbrev cX12_judge : ByteArray := prog_14_method_33_code
def yX12_judge : MethodName := ⟨RX12, "judge", "(II)I"⟩
abbrev cX12_file : ByteArray := prog_14_method_34_code
def yX12_file : MethodName := ⟨RX12, "file", "(II)I"⟩
abbrev cX12_minutesOn : ByteArray := prog_14_method_35_code
def yX12_minutesOn : MethodName := ⟨RX12, "minutesOn", "(II)I"⟩
abbrev cX12_isElsewhere : ByteArray := prog_14_method_36_code
def yX12_isElsewhere : MethodName := ⟨RX12, "isElsewhere", "(III)Z"⟩
abbrev cX12_meetsFoe : ByteArray := prog_14_method_37_code
def yX12_meetsFoe : MethodName := ⟨RX12, "meetsFoe", "(III)Z"⟩
abbrev cX12_whyOf : ByteArray := prog_14_method_38_code
def yX12_whyOf : MethodName := ⟨RX12, "whyOf", "(III)I"⟩
abbrev cX12_why : ByteArray := prog_14_method_39_code
def yX12_why : MethodName := ⟨RX12, "why", "(III)I"⟩
abbrev cX12_sets : ByteArray := prog_14_method_40_code
def yX12_sets : MethodName := ⟨RX12, "sets", "(III)V"⟩
abbrev cX12_keeps : ByteArray := prog_14_method_41_code
def yX12_keeps : MethodName := ⟨RX12, "keeps", "()V"⟩
abbrev cX12_set : ByteArray := prog_14_method_42_code
def yX12_set : MethodName := ⟨RX12, "set", "(III)Z"⟩
abbrev cX12_clear : ByteArray := prog_14_method_43_code
def yX12_clear : MethodName := ⟨RX12, "clear", "(I)I"⟩
abbrev cX12_sits : ByteArray := prog_14_method_44_code
def yX12_sits : MethodName := ⟨RX12, "sits", "(II)I"⟩
abbrev cX12_minutes : ByteArray := prog_14_method_45_code
def yX12_minutes : MethodName := ⟨RX12, "minutes", "(II)I"⟩
abbrev cX12_laysOpen : ByteArray := prog_14_method_46_code
def yX12_laysOpen : MethodName := ⟨RX12, "laysOpen", "(I)V"⟩
abbrev cX12_open : ByteArray := prog_14_method_47_code
def yX12_open : MethodName := ⟨RX12, "open", "(II)I"⟩
abbrev cX12_loadOf : ByteArray := prog_14_method_48_code
def yX12_loadOf : MethodName := ⟨RX12, "loadOf", "(I)I"⟩
abbrev cX12_isBetter : ByteArray := prog_14_method_49_code
def yX12_isBetter : MethodName := ⟨RX12, "isBetter", "(III)Z"⟩
abbrev cX12_passes : ByteArray := prog_14_method_50_code
def yX12_passes : MethodName := ⟨RX12, "passes", "(I)I"⟩
abbrev cX12_go : ByteArray := prog_14_method_51_code
def yX12_go : MethodName := ⟨RX12, "go", "(II)I"⟩
abbrev cX12_laysLoads : ByteArray := prog_14_method_52_code
def yX12_laysLoads : MethodName := ⟨RX12, "laysLoads", "()V"⟩
abbrev cX12_areLess : ByteArray := prog_14_method_53_code
def yX12_areLess : MethodName := ⟨RX12, "areLess", "()Z"⟩
abbrev cX12_notes : ByteArray := prog_14_method_54_code
def yX12_notes : MethodName := ⟨RX12, "notes", "()V"⟩
abbrev cX12_goes : ByteArray := prog_14_method_55_code
def yX12_goes : MethodName := ⟨RX12, "goes", "(III)V"⟩
abbrev cX12_laysBest : ByteArray := prog_14_method_56_code
def yX12_laysBest : MethodName := ⟨RX12, "laysBest", "(II)Z"⟩
abbrev cX12_best : ByteArray := prog_14_method_57_code
def yX12_best : MethodName := ⟨RX12, "best", "(III)J"⟩
abbrev cX12_bestOf : ByteArray := prog_14_method_58_code
def yX12_bestOf : MethodName := ⟨RX12, "bestOf", "(III)I"⟩
abbrev cX12_take : ByteArray := prog_14_method_59_code
def yX12_take : MethodName := ⟨RX12, "take", "(II)I"⟩
abbrev cX12_load : ByteArray := prog_14_method_60_code
def yX12_load : MethodName := ⟨RX12, "load", "(I)I"⟩
abbrev cX12_ranked : ByteArray := prog_14_method_61_code
def yX12_ranked : MethodName := ⟨RX12, "ranked", "(I)I"⟩
abbrev cX12_laysFairer : ByteArray := prog_14_method_62_code
def yX12_laysFairer : MethodName := ⟨RX12, "laysFairer", "()Z"⟩
abbrev cX12_fairer : ByteArray := prog_14_method_63_code
def yX12_fairer : MethodName := ⟨RX12, "fairer", "(I)I"⟩
abbrev cX12_even : ByteArray := prog_14_method_64_code
def yX12_even : MethodName := ⟨RX12, "even", "(I)I"⟩
abbrev cX12_lentBy : ByteArray := prog_14_method_65_code
def yX12_lentBy : MethodName := ⟨RX12, "lentBy", "(II)I"⟩
abbrev cX12_lent : ByteArray := prog_14_method_66_code
def yX12_lent : MethodName := ⟨RX12, "lent", "(II)I"⟩
abbrev cX12_owedBy : ByteArray := prog_14_method_67_code
def yX12_owedBy : MethodName := ⟨RX12, "owedBy", "(I)I"⟩
abbrev cX12_owed : ByteArray := prog_14_method_68_code
def yX12_owed : MethodName := ⟨RX12, "owed", "(I)I"⟩
abbrev cX12_payments : ByteArray := prog_14_method_69_code
def yX12_payments : MethodName := ⟨RX12, "payments", "()I"⟩
abbrev cX12_allLoads : ByteArray := prog_14_method_70_code
def yX12_allLoads : MethodName := ⟨RX12, "allLoads", "()I"⟩
abbrev cX12_share : ByteArray := prog_14_method_71_code
def yX12_share : MethodName := ⟨RX12, "share", "(I)I"⟩
abbrev cX12_spread : ByteArray := prog_14_method_72_code
def yX12_spread : MethodName := ⟨RX12, "spread", "()J"⟩
abbrev cX12_waited : ByteArray := prog_14_method_73_code
def yX12_waited : MethodName := ⟨RX12, "waited", "()I"⟩
abbrev cX12_undo : ByteArray := prog_14_method_74_code
def yX12_undo : MethodName := ⟨RX12, "undo", "()I"⟩
abbrev cX12_keep : ByteArray := prog_14_method_75_code
def yX12_keep : MethodName := ⟨RX12, "keep", "(IZ)Z"⟩
abbrev cX12_sittings : ByteArray := prog_14_method_76_code
def yX12_sittings : MethodName := ⟨RX12, "sittings", "()I"⟩
abbrev cX12_count : ByteArray := prog_14_method_77_code
def yX12_count : MethodName := ⟨RX12, "count", "(I)I"⟩
def RJxe99ae : String := "java/lang/Double"
abbrev cJxe99ae_isNaN_b9ae7 : ByteArray := prog_18_method_6_code
def yJxe99ae_isNaN_b9ae7 : MethodName := ⟨RJxe99ae, "isNaN", "(D)Z"⟩
abbrev cJxe99ae_doubleToLongBits_ccdee : ByteArray := prog_18_method_23_code
def yJxe99ae_doubleToLongBits_ccdee : MethodName := ⟨RJxe99ae, "doubleToLongBits", "(D)J"⟩
def RJxf58ca : String := "java/lang/Float"
def RJ0 : String := "java/lang/String"
abbrev cJ0_length_8abf5 : ByteArray := prog_24_method_54_code
def yJ0_length_8abf5 : MethodName := ⟨RJ0, "length", "()I"⟩
abbrev cJ0_charAt_5068e : ByteArray := prog_24_method_56_code
def yJ0_charAt_5068e : MethodName := ⟨RJ0, "charAt", "(I)C"⟩
abbrev cJ0_coder_7d493 : ByteArray := prog_24_method_152_code
def yJ0_coder_7d493 : MethodName := ⟨RJ0, "coder", "()B"⟩
abbrev cJ0_isLatin1_aae02 : ByteArray := prog_24_method_154_code
def yJ0_isLatin1_aae02 : MethodName := ⟨RJ0, "isLatin1", "()Z"⟩
abbrev cJ0_checkIndex_df160 : ByteArray := prog_24_method_155_code
def yJ0_checkIndex_df160 : MethodName := ⟨RJ0, "checkIndex", "(II)V"⟩
def RJ1 : String := "java/lang/StringLatin1"
abbrev cJ1_charAt_3b067 : ByteArray := prog_25_method_2_code
def yJ1_charAt_3b067 : MethodName := ⟨RJ1, "charAt", "([BI)C"⟩
def RJ3 : String := "jdk/internal/util/Preconditions"
abbrev cJ3_checkIndex_8e157 : ByteArray := prog_32_method_11_code
def yJ3_checkIndex_8e157 : MethodName := ⟨RJ3, "checkIndex", "(IILjava/util/function/BiFunction;)I"⟩
def RL : String := "SisterCourtsLaw"
abbrev cL_judge : ByteArray := method_3_code
def yL_judge : MethodName := ⟨RL, "judge", "(LSisterCourts;II[J)I"⟩
abbrev cL_file : ByteArray := method_4_code
def yL_file : MethodName := ⟨RL, "file", "(LSisterCourts;II[J)I"⟩
abbrev cL_owed : ByteArray := method_5_code
def yL_owed : MethodName := ⟨RL, "owed", "(LSisterCourts;I[J)I"⟩
abbrev cL_law : ByteArray := code
def yL_law : MethodName := ⟨RL, "law", "([I)Z"⟩
